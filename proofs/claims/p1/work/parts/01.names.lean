-- ===== PART A: goes FIRST, ahead of the names: the tables' words, and 'selects' of the private methods out of them =====
/-- a private method of a class that the tables say can be made, by its rows of tables_1 -/
def lw_okq (q : MethodName × Nat) : Prop := (q.1.cls ≠ "java/lang/invoke/MethodHandle" ∧ q.1.cls ≠ "java/lang/invoke/VarHandle") ∧ Cond.instantiable q.1.cls q.2 ∈ tables_1 ∧ Cond.privateMethod q.1 ∈ tables_1 ∧ Cond.instanceMethod q.1 ∈ tables_1
theorem lw_p0 : lw_okq (⟨"FairChecker", "amount", "(I)I"⟩, 4) := ⟨⟨by decide +kernel, by decide +kernel⟩, List.mem_of_getElem? (i := 18) (by decide +kernel), List.mem_of_getElem? (i := 204) (by decide +kernel), List.mem_of_getElem? (i := 205) (by decide +kernel)⟩
theorem lw_p1 : lw_okq (⟨"FairChecker", "mixedWithState", "(JI)J"⟩, 4) := ⟨⟨by decide +kernel, by decide +kernel⟩, List.mem_of_getElem? (i := 18) (by decide +kernel), List.mem_of_getElem? (i := 216) (by decide +kernel), List.mem_of_getElem? (i := 217) (by decide +kernel)⟩
theorem lw_p2 : lw_okq (⟨"FairChecker", "statesWith", "(I)I"⟩, 4) := ⟨⟨by decide +kernel, by decide +kernel⟩, List.mem_of_getElem? (i := 18) (by decide +kernel), List.mem_of_getElem? (i := 241) (by decide +kernel), List.mem_of_getElem? (i := 242) (by decide +kernel)⟩
theorem lw_p3 : lw_okq (⟨"FairChecker$Facts", "isTrue", "(III)Z"⟩, 4) := ⟨⟨by decide +kernel, by decide +kernel⟩, List.mem_of_getElem? (i := 104) (by decide +kernel), List.mem_of_getElem? (i := 249) (by decide +kernel), List.mem_of_getElem? (i := 250) (by decide +kernel)⟩
theorem lw_p4 : lw_okq (⟨"java/lang/Throwable", "fillInStackTrace", "(I)Ljava/lang/Throwable;"⟩, 6) := ⟨⟨by decide +kernel, by decide +kernel⟩, List.mem_of_getElem? (i := 308) (by decide +kernel), List.mem_of_getElem? (i := 306) (by decide +kernel), List.mem_of_getElem? (i := 307) (by decide +kernel)⟩
theorem lw_p5 : lw_okq (⟨"FairChecker$StateSpace", "slotOf", "(I)I"⟩, 11) := ⟨⟨by decide +kernel, by decide +kernel⟩, List.mem_of_getElem? (i := 60) (by decide +kernel), List.mem_of_getElem? (i := 542) (by decide +kernel), List.mem_of_getElem? (i := 543) (by decide +kernel)⟩
theorem lw_p6 : lw_okq (⟨"FairChecker$StateSpace", "newState", "(IIII)V"⟩, 11) := ⟨⟨by decide +kernel, by decide +kernel⟩, List.mem_of_getElem? (i := 60) (by decide +kernel), List.mem_of_getElem? (i := 547) (by decide +kernel), List.mem_of_getElem? (i := 548) (by decide +kernel)⟩
theorem lw_p7 : lw_okq (⟨"FairChecker$StateSpace", "addStepsOf", "(ILFairChecker$Protocol;)V"⟩, 11) := ⟨⟨by decide +kernel, by decide +kernel⟩, List.mem_of_getElem? (i := 60) (by decide +kernel), List.mem_of_getElem? (i := 551) (by decide +kernel), List.mem_of_getElem? (i := 552) (by decide +kernel)⟩
theorem lw_p8 : lw_okq (⟨"FairChecker$Move", "guardAllows", "(I)Z"⟩, 12) := ⟨⟨by decide +kernel, by decide +kernel⟩, List.mem_of_getElem? (i := 419) (by decide +kernel), List.mem_of_getElem? (i := 562) (by decide +kernel), List.mem_of_getElem? (i := 563) (by decide +kernel)⟩
theorem lw_p9 : lw_okq (⟨"FairChecker$StateSpace", "addStepsBy", "(LFairChecker$Move;ILFairChecker$Protocol;)V"⟩, 11) := ⟨⟨by decide +kernel, by decide +kernel⟩, List.mem_of_getElem? (i := 60) (by decide +kernel), List.mem_of_getElem? (i := 573) (by decide +kernel), List.mem_of_getElem? (i := 574) (by decide +kernel)⟩
theorem lw_p10 : lw_okq (⟨"FairChecker$StateSpace", "addStep", "(III)V"⟩, 11) := ⟨⟨by decide +kernel, by decide +kernel⟩, List.mem_of_getElem? (i := 60) (by decide +kernel), List.mem_of_getElem? (i := 588) (by decide +kernel), List.mem_of_getElem? (i := 589) (by decide +kernel)⟩
theorem lw_p11 : lw_okq (⟨"FairChecker$StateSpace", "numberOf", "(II)I"⟩, 11) := ⟨⟨by decide +kernel, by decide +kernel⟩, List.mem_of_getElem? (i := 60) (by decide +kernel), List.mem_of_getElem? (i := 592) (by decide +kernel), List.mem_of_getElem? (i := 593) (by decide +kernel)⟩
theorem lw_p12 : lw_okq (⟨"FairChecker", "canBeFact", "(III)Z"⟩, 4) := ⟨⟨by decide +kernel, by decide +kernel⟩, List.mem_of_getElem? (i := 18) (by decide +kernel), List.mem_of_getElem? (i := 654) (by decide +kernel), List.mem_of_getElem? (i := 655) (by decide +kernel)⟩
theorem lw_p13 : lw_okq (⟨"FairChecker", "firstStateWith", "(I)I"⟩, 4) := ⟨⟨by decide +kernel, by decide +kernel⟩, List.mem_of_getElem? (i := 18) (by decide +kernel), List.mem_of_getElem? (i := 684) (by decide +kernel), List.mem_of_getElem? (i := 685) (by decide +kernel)⟩
theorem lw_p14 : lw_okq (⟨"FairChecker$Traps", "begin", "(ILFairChecker$StateSpace;LFairChecker$Facts;)V"⟩, 15) := ⟨⟨by decide +kernel, by decide +kernel⟩, List.mem_of_getElem? (i := 124) (by decide +kernel), List.mem_of_getElem? (i := 706) (by decide +kernel), List.mem_of_getElem? (i := 707) (by decide +kernel)⟩
theorem lw_p15 : lw_okq (⟨"FairChecker$Traps", "walkFrom", "(ILFairChecker$StateSpace;I)V"⟩, 15) := ⟨⟨by decide +kernel, by decide +kernel⟩, List.mem_of_getElem? (i := 124) (by decide +kernel), List.mem_of_getElem? (i := 712) (by decide +kernel), List.mem_of_getElem? (i := 713) (by decide +kernel)⟩
def lw_privs_1 : List (MethodName × Nat) := [(⟨"FairChecker", "amount", "(I)I"⟩, 4), (⟨"FairChecker", "mixedWithState", "(JI)J"⟩, 4), (⟨"FairChecker", "statesWith", "(I)I"⟩, 4), (⟨"FairChecker$Facts", "isTrue", "(III)Z"⟩, 4), (⟨"java/lang/Throwable", "fillInStackTrace", "(I)Ljava/lang/Throwable;"⟩, 6), (⟨"FairChecker$StateSpace", "slotOf", "(I)I"⟩, 11), (⟨"FairChecker$StateSpace", "newState", "(IIII)V"⟩, 11), (⟨"FairChecker$StateSpace", "addStepsOf", "(ILFairChecker$Protocol;)V"⟩, 11), (⟨"FairChecker$Move", "guardAllows", "(I)Z"⟩, 12), (⟨"FairChecker$StateSpace", "addStepsBy", "(LFairChecker$Move;ILFairChecker$Protocol;)V"⟩, 11), (⟨"FairChecker$StateSpace", "addStep", "(III)V"⟩, 11), (⟨"FairChecker$StateSpace", "numberOf", "(II)I"⟩, 11), (⟨"FairChecker", "canBeFact", "(III)Z"⟩, 4), (⟨"FairChecker", "firstStateWith", "(I)I"⟩, 4), (⟨"FairChecker$Traps", "begin", "(ILFairChecker$StateSpace;LFairChecker$Facts;)V"⟩, 15), (⟨"FairChecker$Traps", "walkFrom", "(ILFairChecker$StateSpace;I)V"⟩, 15)]
theorem lw_r1 : ∀ q ∈ lw_privs_1, lw_okq q := List.forall_mem_cons.mpr ⟨lw_p0, List.forall_mem_cons.mpr ⟨lw_p1, List.forall_mem_cons.mpr ⟨lw_p2, List.forall_mem_cons.mpr ⟨lw_p3, List.forall_mem_cons.mpr ⟨lw_p4, List.forall_mem_cons.mpr ⟨lw_p5, List.forall_mem_cons.mpr ⟨lw_p6, List.forall_mem_cons.mpr ⟨lw_p7, List.forall_mem_cons.mpr ⟨lw_p8, List.forall_mem_cons.mpr ⟨lw_p9, List.forall_mem_cons.mpr ⟨lw_p10, List.forall_mem_cons.mpr ⟨lw_p11, List.forall_mem_cons.mpr ⟨lw_p12, List.forall_mem_cons.mpr ⟨lw_p13, List.forall_mem_cons.mpr ⟨lw_p14, List.forall_mem_cons.mpr ⟨lw_p15, fun _ h => absurd h List.not_mem_nil⟩⟩⟩⟩⟩⟩⟩⟩⟩⟩⟩⟩⟩⟩⟩⟩
theorem lw_p16 : lw_okq (⟨"FairChecker$Traps", "enter", "(I)V"⟩, 15) := ⟨⟨by decide +kernel, by decide +kernel⟩, List.mem_of_getElem? (i := 124) (by decide +kernel), List.mem_of_getElem? (i := 716) (by decide +kernel), List.mem_of_getElem? (i := 717) (by decide +kernel)⟩
theorem lw_p17 : lw_okq (⟨"FairChecker$Traps", "follow", "(II)V"⟩, 15) := ⟨⟨by decide +kernel, by decide +kernel⟩, List.mem_of_getElem? (i := 124) (by decide +kernel), List.mem_of_getElem? (i := 723) (by decide +kernel), List.mem_of_getElem? (i := 724) (by decide +kernel)⟩
theorem lw_p18 : lw_okq (⟨"FairChecker$Traps", "leave", "(I)V"⟩, 15) := ⟨⟨by decide +kernel, by decide +kernel⟩, List.mem_of_getElem? (i := 124) (by decide +kernel), List.mem_of_getElem? (i := 728) (by decide +kernel), List.mem_of_getElem? (i := 729) (by decide +kernel)⟩
theorem lw_p19 : lw_okq (⟨"FairChecker$Traps", "close", "(ILFairChecker$StateSpace;I)V"⟩, 15) := ⟨⟨by decide +kernel, by decide +kernel⟩, List.mem_of_getElem? (i := 124) (by decide +kernel), List.mem_of_getElem? (i := 732) (by decide +kernel), List.mem_of_getElem? (i := 733) (by decide +kernel)⟩
theorem lw_p20 : lw_okq (⟨"FairChecker$Traps", "lookAt", "(ILFairChecker$StateSpace;)V"⟩, 15) := ⟨⟨by decide +kernel, by decide +kernel⟩, List.mem_of_getElem? (i := 124) (by decide +kernel), List.mem_of_getElem? (i := 736) (by decide +kernel), List.mem_of_getElem? (i := 737) (by decide +kernel)⟩
theorem lw_p21 : lw_okq (⟨"FairCheckerModel", "fail", "(I)I"⟩, 24) := ⟨⟨by decide +kernel, by decide +kernel⟩, List.mem_of_getElem? (i := 784) (by decide +kernel), List.mem_of_getElem? (i := 877) (by decide +kernel), List.mem_of_getElem? (i := 878) (by decide +kernel)⟩
theorem lw_p22 : lw_okq (⟨"FairCheckerModel", "forget", "()V"⟩, 24) := ⟨⟨by decide +kernel, by decide +kernel⟩, List.mem_of_getElem? (i := 784) (by decide +kernel), List.mem_of_getElem? (i := 881) (by decide +kernel), List.mem_of_getElem? (i := 882) (by decide +kernel)⟩
theorem lw_p23 : lw_okq (⟨"FairCheckerModel", "isProcess", "(I)Z"⟩, 24) := ⟨⟨by decide +kernel, by decide +kernel⟩, List.mem_of_getElem? (i := 784) (by decide +kernel), List.mem_of_getElem? (i := 893) (by decide +kernel), List.mem_of_getElem? (i := 894) (by decide +kernel)⟩
theorem lw_p24 : lw_okq (⟨"FairCheckerModel", "set", "(IIZIIII)I"⟩, 24) := ⟨⟨by decide +kernel, by decide +kernel⟩, List.mem_of_getElem? (i := 784) (by decide +kernel), List.mem_of_getElem? (i := 902) (by decide +kernel), List.mem_of_getElem? (i := 903) (by decide +kernel)⟩
theorem lw_p25 : lw_okq (⟨"FairCheckerModel", "isVariable", "(I)Z"⟩, 24) := ⟨⟨by decide +kernel, by decide +kernel⟩, List.mem_of_getElem? (i := 784) (by decide +kernel), List.mem_of_getElem? (i := 906) (by decide +kernel), List.mem_of_getElem? (i := 907) (by decide +kernel)⟩
theorem lw_p26 : lw_okq (⟨"FairCheckerModel", "get", "(III)I"⟩, 24) := ⟨⟨by decide +kernel, by decide +kernel⟩, List.mem_of_getElem? (i := 784) (by decide +kernel), List.mem_of_getElem? (i := 910) (by decide +kernel), List.mem_of_getElem? (i := 911) (by decide +kernel)⟩
theorem lw_p27 : lw_okq (⟨"FairCheckerModel", "counted", "(I)I"⟩, 24) := ⟨⟨by decide +kernel, by decide +kernel⟩, List.mem_of_getElem? (i := 784) (by decide +kernel), List.mem_of_getElem? (i := 922) (by decide +kernel), List.mem_of_getElem? (i := 923) (by decide +kernel)⟩
theorem lw_p28 : lw_okq (⟨"FairCheckerModel", "add", "(III)V"⟩, 24) := ⟨⟨by decide +kernel, by decide +kernel⟩, List.mem_of_getElem? (i := 784) (by decide +kernel), List.mem_of_getElem? (i := 933) (by decide +kernel), List.mem_of_getElem? (i := 934) (by decide +kernel)⟩
theorem lw_p29 : lw_okq (⟨"FairCheckerModel", "slot", "(I)I"⟩, 24) := ⟨⟨by decide +kernel, by decide +kernel⟩, List.mem_of_getElem? (i := 784) (by decide +kernel), List.mem_of_getElem? (i := 937) (by decide +kernel), List.mem_of_getElem? (i := 938) (by decide +kernel)⟩
theorem lw_p30 : lw_okq (⟨"FairCheckerModel", "makeSteps", "(I)V"⟩, 24) := ⟨⟨by decide +kernel, by decide +kernel⟩, List.mem_of_getElem? (i := 784) (by decide +kernel), List.mem_of_getElem? (i := 941) (by decide +kernel), List.mem_of_getElem? (i := 942) (by decide +kernel)⟩
theorem lw_p31 : lw_okq (⟨"FairCheckerModel", "isOpen", "(III)Z"⟩, 24) := ⟨⟨by decide +kernel, by decide +kernel⟩, List.mem_of_getElem? (i := 784) (by decide +kernel), List.mem_of_getElem? (i := 945) (by decide +kernel), List.mem_of_getElem? (i := 946) (by decide +kernel)⟩
def lw_privs_2 : List (MethodName × Nat) := [(⟨"FairChecker$Traps", "enter", "(I)V"⟩, 15), (⟨"FairChecker$Traps", "follow", "(II)V"⟩, 15), (⟨"FairChecker$Traps", "leave", "(I)V"⟩, 15), (⟨"FairChecker$Traps", "close", "(ILFairChecker$StateSpace;I)V"⟩, 15), (⟨"FairChecker$Traps", "lookAt", "(ILFairChecker$StateSpace;)V"⟩, 15), (⟨"FairCheckerModel", "fail", "(I)I"⟩, 24), (⟨"FairCheckerModel", "forget", "()V"⟩, 24), (⟨"FairCheckerModel", "isProcess", "(I)Z"⟩, 24), (⟨"FairCheckerModel", "set", "(IIZIIII)I"⟩, 24), (⟨"FairCheckerModel", "isVariable", "(I)Z"⟩, 24), (⟨"FairCheckerModel", "get", "(III)I"⟩, 24), (⟨"FairCheckerModel", "counted", "(I)I"⟩, 24), (⟨"FairCheckerModel", "add", "(III)V"⟩, 24), (⟨"FairCheckerModel", "slot", "(I)I"⟩, 24), (⟨"FairCheckerModel", "makeSteps", "(I)V"⟩, 24), (⟨"FairCheckerModel", "isOpen", "(III)Z"⟩, 24)]
theorem lw_r2 : ∀ q ∈ lw_privs_2, lw_okq q := List.forall_mem_cons.mpr ⟨lw_p16, List.forall_mem_cons.mpr ⟨lw_p17, List.forall_mem_cons.mpr ⟨lw_p18, List.forall_mem_cons.mpr ⟨lw_p19, List.forall_mem_cons.mpr ⟨lw_p20, List.forall_mem_cons.mpr ⟨lw_p21, List.forall_mem_cons.mpr ⟨lw_p22, List.forall_mem_cons.mpr ⟨lw_p23, List.forall_mem_cons.mpr ⟨lw_p24, List.forall_mem_cons.mpr ⟨lw_p25, List.forall_mem_cons.mpr ⟨lw_p26, List.forall_mem_cons.mpr ⟨lw_p27, List.forall_mem_cons.mpr ⟨lw_p28, List.forall_mem_cons.mpr ⟨lw_p29, List.forall_mem_cons.mpr ⟨lw_p30, List.forall_mem_cons.mpr ⟨lw_p31, fun _ h => absurd h List.not_mem_nil⟩⟩⟩⟩⟩⟩⟩⟩⟩⟩⟩⟩⟩⟩⟩⟩
theorem lw_p32 : lw_okq (⟨"FairCheckerModel", "isGuarded", "(III)Z"⟩, 24) := ⟨⟨by decide +kernel, by decide +kernel⟩, List.mem_of_getElem? (i := 784) (by decide +kernel), List.mem_of_getElem? (i := 952) (by decide +kernel), List.mem_of_getElem? (i := 953) (by decide +kernel)⟩
theorem lw_p33 : lw_okq (⟨"FairCheckerModel", "behind", "(III)I"⟩, 24) := ⟨⟨by decide +kernel, by decide +kernel⟩, List.mem_of_getElem? (i := 784) (by decide +kernel), List.mem_of_getElem? (i := 959) (by decide +kernel), List.mem_of_getElem? (i := 960) (by decide +kernel)⟩
theorem lw_p34 : lw_okq (⟨"FairCheckerModel", "put", "(IIIII)V"⟩, 24) := ⟨⟨by decide +kernel, by decide +kernel⟩, List.mem_of_getElem? (i := 784) (by decide +kernel), List.mem_of_getElem? (i := 966) (by decide +kernel), List.mem_of_getElem? (i := 967) (by decide +kernel)⟩
theorem lw_p35 : lw_okq (⟨"FairCheckerModel", "number", "(I)I"⟩, 24) := ⟨⟨by decide +kernel, by decide +kernel⟩, List.mem_of_getElem? (i := 784) (by decide +kernel), List.mem_of_getElem? (i := 970) (by decide +kernel), List.mem_of_getElem? (i := 971) (by decide +kernel)⟩
theorem lw_p36 : lw_okq (⟨"FairCheckerModel", "isState", "(I)Z"⟩, 24) := ⟨⟨by decide +kernel, by decide +kernel⟩, List.mem_of_getElem? (i := 784) (by decide +kernel), List.mem_of_getElem? (i := 981) (by decide +kernel), List.mem_of_getElem? (i := 982) (by decide +kernel)⟩
theorem lw_p37 : lw_okq (⟨"FairCheckerModel", "stateTold", "(II)I"⟩, 24) := ⟨⟨by decide +kernel, by decide +kernel⟩, List.mem_of_getElem? (i := 784) (by decide +kernel), List.mem_of_getElem? (i := 985) (by decide +kernel), List.mem_of_getElem? (i := 986) (by decide +kernel)⟩
theorem lw_p38 : lw_okq (⟨"FairCheckerModel", "stepTold", "(II)I"⟩, 24) := ⟨⟨by decide +kernel, by decide +kernel⟩, List.mem_of_getElem? (i := 784) (by decide +kernel), List.mem_of_getElem? (i := 993) (by decide +kernel), List.mem_of_getElem? (i := 994) (by decide +kernel)⟩
theorem lw_p39 : lw_okq (⟨"FairCheckerModel", "isFact", "(I)Z"⟩, 24) := ⟨⟨by decide +kernel, by decide +kernel⟩, List.mem_of_getElem? (i := 784) (by decide +kernel), List.mem_of_getElem? (i := 1001) (by decide +kernel), List.mem_of_getElem? (i := 1002) (by decide +kernel)⟩
theorem lw_p40 : lw_okq (⟨"FairCheckerModel", "isTrue", "(II)Z"⟩, 24) := ⟨⟨by decide +kernel, by decide +kernel⟩, List.mem_of_getElem? (i := 784) (by decide +kernel), List.mem_of_getElem? (i := 1009) (by decide +kernel), List.mem_of_getElem? (i := 1010) (by decide +kernel)⟩
theorem lw_p41 : lw_okq (⟨"FairCheckerModel", "statesOf", "(I)I"⟩, 24) := ⟨⟨by decide +kernel, by decide +kernel⟩, List.mem_of_getElem? (i := 784) (by decide +kernel), List.mem_of_getElem? (i := 1017) (by decide +kernel), List.mem_of_getElem? (i := 1018) (by decide +kernel)⟩
theorem lw_p42 : lw_okq (⟨"FairCheckerModel", "findTraps", "(I)I"⟩, 24) := ⟨⟨by decide +kernel, by decide +kernel⟩, List.mem_of_getElem? (i := 784) (by decide +kernel), List.mem_of_getElem? (i := 1029) (by decide +kernel), List.mem_of_getElem? (i := 1030) (by decide +kernel)⟩
theorem lw_p43 : lw_okq (⟨"FairCheckerModel", "findReach", "(I)V"⟩, 24) := ⟨⟨by decide +kernel, by decide +kernel⟩, List.mem_of_getElem? (i := 784) (by decide +kernel), List.mem_of_getElem? (i := 1033) (by decide +kernel), List.mem_of_getElem? (i := 1034) (by decide +kernel)⟩
theorem lw_p44 : lw_okq (⟨"FairCheckerModel", "isTogether", "(II)Z"⟩, 24) := ⟨⟨by decide +kernel, by decide +kernel⟩, List.mem_of_getElem? (i := 784) (by decide +kernel), List.mem_of_getElem? (i := 1040) (by decide +kernel), List.mem_of_getElem? (i := 1041) (by decide +kernel)⟩
theorem lw_p45 : lw_okq (⟨"FairCheckerModel", "isTrap", "(I)Z"⟩, 24) := ⟨⟨by decide +kernel, by decide +kernel⟩, List.mem_of_getElem? (i := 784) (by decide +kernel), List.mem_of_getElem? (i := 1044) (by decide +kernel), List.mem_of_getElem? (i := 1045) (by decide +kernel)⟩
theorem lw_p46 : lw_okq (⟨"FairCheckerModel", "isFairTo", "(II)Z"⟩, 24) := ⟨⟨by decide +kernel, by decide +kernel⟩, List.mem_of_getElem? (i := 784) (by decide +kernel), List.mem_of_getElem? (i := 1048) (by decide +kernel), List.mem_of_getElem? (i := 1049) (by decide +kernel)⟩
theorem lw_p47 : lw_okq (⟨"FairCheckerModel", "isBadNow", "(I)Z"⟩, 24) := ⟨⟨by decide +kernel, by decide +kernel⟩, List.mem_of_getElem? (i := 784) (by decide +kernel), List.mem_of_getElem? (i := 1052) (by decide +kernel), List.mem_of_getElem? (i := 1053) (by decide +kernel)⟩
def lw_privs_3 : List (MethodName × Nat) := [(⟨"FairCheckerModel", "isGuarded", "(III)Z"⟩, 24), (⟨"FairCheckerModel", "behind", "(III)I"⟩, 24), (⟨"FairCheckerModel", "put", "(IIIII)V"⟩, 24), (⟨"FairCheckerModel", "number", "(I)I"⟩, 24), (⟨"FairCheckerModel", "isState", "(I)Z"⟩, 24), (⟨"FairCheckerModel", "stateTold", "(II)I"⟩, 24), (⟨"FairCheckerModel", "stepTold", "(II)I"⟩, 24), (⟨"FairCheckerModel", "isFact", "(I)Z"⟩, 24), (⟨"FairCheckerModel", "isTrue", "(II)Z"⟩, 24), (⟨"FairCheckerModel", "statesOf", "(I)I"⟩, 24), (⟨"FairCheckerModel", "findTraps", "(I)I"⟩, 24), (⟨"FairCheckerModel", "findReach", "(I)V"⟩, 24), (⟨"FairCheckerModel", "isTogether", "(II)Z"⟩, 24), (⟨"FairCheckerModel", "isTrap", "(I)Z"⟩, 24), (⟨"FairCheckerModel", "isFairTo", "(II)Z"⟩, 24), (⟨"FairCheckerModel", "isBadNow", "(I)Z"⟩, 24)]
theorem lw_r3 : ∀ q ∈ lw_privs_3, lw_okq q := List.forall_mem_cons.mpr ⟨lw_p32, List.forall_mem_cons.mpr ⟨lw_p33, List.forall_mem_cons.mpr ⟨lw_p34, List.forall_mem_cons.mpr ⟨lw_p35, List.forall_mem_cons.mpr ⟨lw_p36, List.forall_mem_cons.mpr ⟨lw_p37, List.forall_mem_cons.mpr ⟨lw_p38, List.forall_mem_cons.mpr ⟨lw_p39, List.forall_mem_cons.mpr ⟨lw_p40, List.forall_mem_cons.mpr ⟨lw_p41, List.forall_mem_cons.mpr ⟨lw_p42, List.forall_mem_cons.mpr ⟨lw_p43, List.forall_mem_cons.mpr ⟨lw_p44, List.forall_mem_cons.mpr ⟨lw_p45, List.forall_mem_cons.mpr ⟨lw_p46, List.forall_mem_cons.mpr ⟨lw_p47, fun _ h => absurd h List.not_mem_nil⟩⟩⟩⟩⟩⟩⟩⟩⟩⟩⟩⟩⟩⟩⟩⟩
def lw_privs : List (MethodName × Nat) := lw_privs_1 ++ (lw_privs_2 ++ (lw_privs_3))
def lw_tbl : List Cond := k2_sels lw_privs ++ tables_1
theorem lw_privs_ok : ∀ q ∈ lw_privs, lw_okq q := by
  show ∀ q ∈ lw_privs_1 ++ (lw_privs_2 ++ (lw_privs_3)), lw_okq q
  exact List.forall_mem_append.mpr ⟨lw_r1, List.forall_mem_append.mpr ⟨lw_r2, lw_r3⟩⟩
/-- the streams that the claim lets the run draw from -/
abbrev lw_cs : List Choice := [Jvm.Choice.named "NaN.bits"]
theorem lw_bits : nanBits ∈ lw_cs := by first | decide | exact List.mem_cons_self | simp [lw_cs, nanBits]

def RX0 : String := "FairChecker$Facts"
def TX0 : u_T := fun k => match k with
  | 0 => ("FairChecker$Facts", "sorts", "[I", true)
  | 1 => ("FairChecker$Facts", "firsts", "[I", true)
  | 2 => ("FairChecker$Facts", "seconds", "[I", true)
  | _ => ("FairChecker$Facts", "size", "I", false)
def tyX0 : Nat → FieldType := fun k => match k with
  | 0 => .array .int
  | 1 => .array .int
  | 2 => .array .int
  | _ => .int
theorem nmX0 : ∀ a, a < 4 → ∀ b, b < 4 → a ≠ b → (TX0 a).2.1 ≠ (TX0 b).2.1 := by decide +kernel
theorem tyX0_ok : ∀ k, k < 4 → parseFieldDescriptor (TX0 k).2.2.1 = some (tyX0 k) := by decide +kernel
abbrev cX0_init : ByteArray := prog_2_method_1_code
def yX0_init : MethodName := ⟨RX0, "<init>", "()V"⟩
abbrev cX0_hasFact : ByteArray := prog_2_method_2_code
def yX0_hasFact : MethodName := ⟨RX0, "hasFact", "(I)Z"⟩
abbrev cX0_newFact : ByteArray := prog_2_method_3_code
def yX0_newFact : MethodName := ⟨RX0, "newFact", "(III)I"⟩
abbrev cX0_isTrueIn : ByteArray := prog_2_method_4_code
def yX0_isTrueIn : MethodName := ⟨RX0, "isTrueIn", "(II)Z"⟩
abbrev cX0_isTrue : ByteArray := prog_2_method_5_code
def yX0_isTrue : MethodName := ⟨RX0, "isTrue", "(III)Z"⟩
abbrev cX0_isKnown : ByteArray := prog_2_method_6_code
def yX0_isKnown : MethodName := ⟨RX0, "isKnown", "(II)Z"⟩
def RX1 : String := "FairChecker$Move"
def TX1 : u_T := fun k => match k with
  | 0 => ("FairChecker$Move", "process", "I", true)
  | 1 => ("FairChecker$Move", "number", "I", true)
  | 2 => ("FairChecker$Move", "from", "I", true)
  | 3 => ("FairChecker$Move", "to", "I", true)
  | 4 => ("FairChecker$Move", "hand", "I", true)
  | 5 => ("FairChecker$Move", "guardSort", "I", false)
  | 6 => ("FairChecker$Move", "guardVariable", "I", false)
  | 7 => ("FairChecker$Move", "guardNumber", "I", false)
  | 8 => ("FairChecker$Move", "deedSort", "I", false)
  | 9 => ("FairChecker$Move", "deedVariable", "I", false)
  | 10 => ("FairChecker$Move", "deedNumber", "I", false)
  | _ => ("FairChecker$Move", "deedGreatest", "I", false)
def tyX1 : Nat → FieldType := fun k => match k with
  | 0 => .int
  | 1 => .int
  | 2 => .int
  | 3 => .int
  | 4 => .int
  | 5 => .int
  | 6 => .int
  | 7 => .int
  | 8 => .int
  | 9 => .int
  | 10 => .int
  | _ => .int
theorem nmX1 : ∀ a, a < 12 → ∀ b, b < 12 → a ≠ b → (TX1 a).2.1 ≠ (TX1 b).2.1 := by decide +kernel
theorem tyX1_ok : ∀ k, k < 12 → parseFieldDescriptor (TX1 k).2.2.1 = some (tyX1 k) := by decide +kernel
abbrev cX1_init : ByteArray := prog_3_method_1_code
def yX1_init : MethodName := ⟨RX1, "<init>", "(IIIII)V"⟩
abbrev cX1_setGuard : ByteArray := prog_3_method_2_code
def yX1_setGuard : MethodName := ⟨RX1, "setGuard", "(III)I"⟩
abbrev cX1_setDeed : ByteArray := prog_3_method_3_code
def yX1_setDeed : MethodName := ⟨RX1, "setDeed", "(IIII)I"⟩
abbrev cX1_isOpenIn : ByteArray := prog_3_method_4_code
def yX1_isOpenIn : MethodName := ⟨RX1, "isOpenIn", "(I)Z"⟩
abbrev cX1_guardAllows : ByteArray := prog_3_method_5_code
def yX1_guardAllows : MethodName := ⟨RX1, "guardAllows", "(I)Z"⟩
abbrev cX1_afterDeed : ByteArray := prog_3_method_6_code
def yX1_afterDeed : MethodName := ⟨RX1, "afterDeed", "(I)I"⟩
abbrev cX1_afterGoing : ByteArray := prog_3_method_7_code
def yX1_afterGoing : MethodName := ⟨RX1, "afterGoing", "(I)I"⟩
def RX2 : String := "FairChecker$Protocol"
def TX2 : u_T := fun k => match k with
  | 0 => ("FairChecker$Protocol", "locations", "[I", true)
  | 1 => ("FairChecker$Protocol", "moveCounts", "[I", true)
  | 2 => ("FairChecker$Protocol", "moves", "[LFairChecker$Move;", true)
  | 3 => ("FairChecker$Protocol", "greatest", "[I", true)
  | 4 => ("FairChecker$Protocol", "begin", "[I", true)
  | 5 => ("FairChecker$Protocol", "processes", "I", false)
  | _ => ("FairChecker$Protocol", "variables", "I", false)
def tyX2 : Nat → FieldType := fun k => match k with
  | 0 => .array .int
  | 1 => .array .int
  | 2 => .array (.object "FairChecker$Move")
  | 3 => .array .int
  | 4 => .array .int
  | 5 => .int
  | _ => .int
theorem nmX2 : ∀ a, a < 7 → ∀ b, b < 7 → a ≠ b → (TX2 a).2.1 ≠ (TX2 b).2.1 := by decide +kernel
theorem tyX2_ok : ∀ k, k < 7 → parseFieldDescriptor (TX2 k).2.2.1 = some (tyX2 k) := by decide +kernel
abbrev cX2_init : ByteArray := prog_4_method_1_code
def yX2_init : MethodName := ⟨RX2, "<init>", "()V"⟩
abbrev cX2_hasProcess : ByteArray := prog_4_method_2_code
def yX2_hasProcess : MethodName := ⟨RX2, "hasProcess", "(I)Z"⟩
abbrev cX2_hasLocation : ByteArray := prog_4_method_3_code
def yX2_hasLocation : MethodName := ⟨RX2, "hasLocation", "(II)Z"⟩
abbrev cX2_hasVariable : ByteArray := prog_4_method_4_code
def yX2_hasVariable : MethodName := ⟨RX2, "hasVariable", "(I)Z"⟩
abbrev cX2_greatestOf : ByteArray := prog_4_method_5_code
def yX2_greatestOf : MethodName := ⟨RX2, "greatestOf", "(I)I"⟩
abbrev cX2_movesOf : ByteArray := prog_4_method_6_code
def yX2_movesOf : MethodName := ⟨RX2, "movesOf", "(I)I"⟩
abbrev cX2_allMoves : ByteArray := prog_4_method_7_code
def yX2_allMoves : MethodName := ⟨RX2, "allMoves", "()I"⟩
abbrev cX2_find : ByteArray := prog_4_method_8_code
def yX2_find : MethodName := ⟨RX2, "find", "(II)LFairChecker$Move;"⟩
abbrev cX2_newProcess : ByteArray := prog_4_method_9_code
def yX2_newProcess : MethodName := ⟨RX2, "newProcess", "(I)I"⟩
abbrev cX2_newVariable : ByteArray := prog_4_method_10_code
def yX2_newVariable : MethodName := ⟨RX2, "newVariable", "(II)I"⟩
abbrev cX2_newMove : ByteArray := prog_4_method_11_code
def yX2_newMove : MethodName := ⟨RX2, "newMove", "(IIII)I"⟩
abbrev cX2_keyAtBeginning : ByteArray := prog_4_method_12_code
def yX2_keyAtBeginning : MethodName := ⟨RX2, "keyAtBeginning", "()I"⟩
def RX3 : String := "FairChecker$StateSpace"
def TX3 : u_T := fun k => match k with
  | 0 => ("FairChecker$StateSpace", "keys", "[I", true)
  | 1 => ("FairChecker$StateSpace", "depths", "[I", true)
  | 2 => ("FairChecker$StateSpace", "parents", "[I", true)
  | 3 => ("FairChecker$StateSpace", "parentSteps", "[I", true)
  | 4 => ("FairChecker$StateSpace", "takers", "[I", true)
  | 5 => ("FairChecker$StateSpace", "firstSteps", "[I", true)
  | 6 => ("FairChecker$StateSpace", "slots", "[I", true)
  | 7 => ("FairChecker$StateSpace", "packedSteps", "[I", false)
  | 8 => ("FairChecker$StateSpace", "states", "I", false)
  | 9 => ("FairChecker$StateSpace", "steps", "I", false)
  | _ => ("FairChecker$StateSpace", "isTooLarge", "Z", false)
def tyX3 : Nat → FieldType := fun k => match k with
  | 0 => .array .int
  | 1 => .array .int
  | 2 => .array .int
  | 3 => .array .int
  | 4 => .array .int
  | 5 => .array .int
  | 6 => .array .int
  | 7 => .array .int
  | 8 => .int
  | 9 => .int
  | _ => .boolean
theorem nmX3 : ∀ a, a < 11 → ∀ b, b < 11 → a ≠ b → (TX3 a).2.1 ≠ (TX3 b).2.1 := by decide +kernel
theorem tyX3_ok : ∀ k, k < 11 → parseFieldDescriptor (TX3 k).2.2.1 = some (tyX3 k) := by decide +kernel
abbrev cX3_init : ByteArray := prog_5_method_1_code
def yX3_init : MethodName := ⟨RX3, "<init>", "()V"⟩
abbrev cX3_isExplored : ByteArray := prog_5_method_2_code
def yX3_isExplored : MethodName := ⟨RX3, "isExplored", "()Z"⟩
abbrev cX3_hasState : ByteArray := prog_5_method_3_code
def yX3_hasState : MethodName := ⟨RX3, "hasState", "(I)Z"⟩
abbrev cX3_keyOf : ByteArray := prog_5_method_4_code
def yX3_keyOf : MethodName := ⟨RX3, "keyOf", "(I)I"⟩
abbrev cX3_depthOf : ByteArray := prog_5_method_5_code
def yX3_depthOf : MethodName := ⟨RX3, "depthOf", "(I)I"⟩
abbrev cX3_parentOf : ByteArray := prog_5_method_6_code
def yX3_parentOf : MethodName := ⟨RX3, "parentOf", "(I)I"⟩
abbrev cX3_parentStepOf : ByteArray := prog_5_method_7_code
def yX3_parentStepOf : MethodName := ⟨RX3, "parentStepOf", "(I)I"⟩
abbrev cX3_stepsOf : ByteArray := prog_5_method_8_code
def yX3_stepsOf : MethodName := ⟨RX3, "stepsOf", "(I)I"⟩
abbrev cX3_packedStep : ByteArray := prog_5_method_9_code
def yX3_packedStep : MethodName := ⟨RX3, "packedStep", "(II)I"⟩
abbrev cX3_takersIn : ByteArray := prog_5_method_10_code
def yX3_takersIn : MethodName := ⟨RX3, "takersIn", "(I)I"⟩
abbrev cX3_onTheWay : ByteArray := prog_5_method_11_code
def yX3_onTheWay : MethodName := ⟨RX3, "onTheWay", "(II)I"⟩
abbrev cX3_partOf : ByteArray := prog_5_method_12_code
def yX3_partOf : MethodName := ⟨RX3, "partOf", "(II)I"⟩
abbrev cX3_takersOf : ByteArray := prog_5_method_13_code
def yX3_takersOf : MethodName := ⟨RX3, "takersOf", "(I)I"⟩
abbrev cX3_forget : ByteArray := prog_5_method_14_code
def yX3_forget : MethodName := ⟨RX3, "forget", "()V"⟩
abbrev cX3_fill : ByteArray := prog_5_method_15_code
def yX3_fill : MethodName := ⟨RX3, "fill", "(LFairChecker$Protocol;)I"⟩
abbrev cX3_addStepsOf : ByteArray := prog_5_method_16_code
def yX3_addStepsOf : MethodName := ⟨RX3, "addStepsOf", "(ILFairChecker$Protocol;)V"⟩
abbrev cX3_addStepsBy : ByteArray := prog_5_method_17_code
def yX3_addStepsBy : MethodName := ⟨RX3, "addStepsBy", "(LFairChecker$Move;ILFairChecker$Protocol;)V"⟩
abbrev cX3_packedMover : ByteArray := prog_5_method_18_code
def yX3_packedMover : MethodName := ⟨RX3, "packedMover", "(LFairChecker$Move;)I"⟩
abbrev cX3_packedOther : ByteArray := prog_5_method_19_code
def yX3_packedOther : MethodName := ⟨RX3, "packedOther", "(LFairChecker$Move;)I"⟩
abbrev cX3_addStep : ByteArray := prog_5_method_20_code
def yX3_addStep : MethodName := ⟨RX3, "addStep", "(III)V"⟩
abbrev cX3_numberOf : ByteArray := prog_5_method_21_code
def yX3_numberOf : MethodName := ⟨RX3, "numberOf", "(II)I"⟩
abbrev cX3_newState : ByteArray := prog_5_method_22_code
def yX3_newState : MethodName := ⟨RX3, "newState", "(IIII)V"⟩
abbrev cX3_slotOf : ByteArray := prog_5_method_23_code
def yX3_slotOf : MethodName := ⟨RX3, "slotOf", "(I)I"⟩
def RX4 : String := "FairChecker$Traps"
def TX4 : u_T := fun k => match k with
  | 0 => ("FairChecker$Traps", "isWithout", "[Z", true)
  | 1 => ("FairChecker$Traps", "isWaiting", "[Z", true)
  | 2 => ("FairChecker$Traps", "isBadHere", "[Z", true)
  | 3 => ("FairChecker$Traps", "orders", "[I", true)
  | 4 => ("FairChecker$Traps", "lowest", "[I", true)
  | 5 => ("FairChecker$Traps", "nextSteps", "[I", true)
  | 6 => ("FairChecker$Traps", "path", "[I", true)
  | 7 => ("FairChecker$Traps", "waiting", "[I", true)
  | 8 => ("FairChecker$Traps", "pathLength", "I", false)
  | 9 => ("FairChecker$Traps", "waitingCount", "I", false)
  | 10 => ("FairChecker$Traps", "entered", "I", false)
  | 11 => ("FairChecker$Traps", "lookedFor", "I", false)
  | 12 => ("FairChecker$Traps", "trappedStates", "I", false)
  | 13 => ("FairChecker$Traps", "fairTo", "I", false)
  | _ => ("FairChecker$Traps", "goesToBad", "Z", false)
def tyX4 : Nat → FieldType := fun k => match k with
  | 0 => .array .boolean
  | 1 => .array .boolean
  | 2 => .array .boolean
  | 3 => .array .int
  | 4 => .array .int
  | 5 => .array .int
  | 6 => .array .int
  | 7 => .array .int
  | 8 => .int
  | 9 => .int
  | 10 => .int
  | 11 => .int
  | 12 => .int
  | 13 => .int
  | _ => .boolean
theorem nmX4 : ∀ a, a < 15 → ∀ b, b < 15 → a ≠ b → (TX4 a).2.1 ≠ (TX4 b).2.1 := by decide +kernel
theorem tyX4_ok : ∀ k, k < 15 → parseFieldDescriptor (TX4 k).2.2.1 = some (tyX4 k) := by decide +kernel
abbrev cX4_init : ByteArray := prog_6_method_1_code
def yX4_init : MethodName := ⟨RX4, "<init>", "()V"⟩
abbrev cX4_forget : ByteArray := prog_6_method_2_code
def yX4_forget : MethodName := ⟨RX4, "forget", "()V"⟩
abbrev cX4_isBadState : ByteArray := prog_6_method_3_code
def yX4_isBadState : MethodName := ⟨RX4, "isBadState", "(I)Z"⟩
abbrev cX4_lookFor : ByteArray := prog_6_method_4_code
def yX4_lookFor : MethodName := ⟨RX4, "lookFor", "(ILFairChecker$StateSpace;LFairChecker$Facts;I)V"⟩
abbrev cX4_begin : ByteArray := prog_6_method_5_code
def yX4_begin : MethodName := ⟨RX4, "begin", "(ILFairChecker$StateSpace;LFairChecker$Facts;)V"⟩
abbrev cX4_walkFrom : ByteArray := prog_6_method_6_code
def yX4_walkFrom : MethodName := ⟨RX4, "walkFrom", "(ILFairChecker$StateSpace;I)V"⟩
abbrev cX4_enter : ByteArray := prog_6_method_7_code
def yX4_enter : MethodName := ⟨RX4, "enter", "(I)V"⟩
abbrev cX4_follow : ByteArray := prog_6_method_8_code
def yX4_follow : MethodName := ⟨RX4, "follow", "(II)V"⟩
abbrev cX4_leave : ByteArray := prog_6_method_9_code
def yX4_leave : MethodName := ⟨RX4, "leave", "(I)V"⟩
abbrev cX4_close : ByteArray := prog_6_method_10_code
def yX4_close : MethodName := ⟨RX4, "close", "(ILFairChecker$StateSpace;I)V"⟩
abbrev cX4_lookAt : ByteArray := prog_6_method_11_code
def yX4_lookAt : MethodName := ⟨RX4, "lookAt", "(ILFairChecker$StateSpace;)V"⟩
def RX5 : String := "FairChecker"
def TX5 : u_T := fun k => match k with
  | 0 => ("FairChecker", "protocol", "LFairChecker$Protocol;", true)
  | 1 => ("FairChecker", "space", "LFairChecker$StateSpace;", true)
  | 2 => ("FairChecker", "facts", "LFairChecker$Facts;", true)
  | _ => ("FairChecker", "traps", "LFairChecker$Traps;", true)
def tyX5 : Nat → FieldType := fun k => match k with
  | 0 => .object "FairChecker$Protocol"
  | 1 => .object "FairChecker$StateSpace"
  | 2 => .object "FairChecker$Facts"
  | _ => .object "FairChecker$Traps"
theorem nmX5 : ∀ a, a < 4 → ∀ b, b < 4 → a ≠ b → (TX5 a).2.1 ≠ (TX5 b).2.1 := by decide +kernel
theorem tyX5_ok : ∀ k, k < 4 → parseFieldDescriptor (TX5 k).2.2.1 = some (tyX5 k) := by decide +kernel
abbrev cX5_init : ByteArray := prog_1_method_1_code
def yX5_init : MethodName := ⟨RX5, "<init>", "()V"⟩
abbrev cX5_addProcess : ByteArray := prog_1_method_2_code
def yX5_addProcess : MethodName := ⟨RX5, "addProcess", "(I)I"⟩
abbrev cX5_addVariable : ByteArray := prog_1_method_3_code
def yX5_addVariable : MethodName := ⟨RX5, "addVariable", "(II)I"⟩
abbrev cX5_addMove : ByteArray := prog_1_method_4_code
def yX5_addMove : MethodName := ⟨RX5, "addMove", "(IIII)I"⟩
abbrev cX5_guard : ByteArray := prog_1_method_5_code
def yX5_guard : MethodName := ⟨RX5, "guard", "(IIIII)I"⟩
abbrev cX5_deed : ByteArray := prog_1_method_6_code
def yX5_deed : MethodName := ⟨RX5, "deed", "(IIIII)I"⟩
abbrev cX5_count : ByteArray := prog_1_method_7_code
def yX5_count : MethodName := ⟨RX5, "count", "(I)I"⟩
abbrev cX5_explore : ByteArray := prog_1_method_8_code
def yX5_explore : MethodName := ⟨RX5, "explore", "()I"⟩
abbrev cX5_state : ByteArray := prog_1_method_9_code
def yX5_state : MethodName := ⟨RX5, "state", "(II)I"⟩
abbrev cX5_step : ByteArray := prog_1_method_10_code
def yX5_step : MethodName := ⟨RX5, "step", "(III)I"⟩
abbrev cX5_addFact : ByteArray := prog_1_method_11_code
def yX5_addFact : MethodName := ⟨RX5, "addFact", "(III)I"⟩
abbrev cX5_holds : ByteArray := prog_1_method_12_code
def yX5_holds : MethodName := ⟨RX5, "holds", "(II)Z"⟩
abbrev cX5_where : ByteArray := prog_1_method_13_code
def yX5_where : MethodName := ⟨RX5, "where", "(IZ)I"⟩
abbrev cX5_stuck : ByteArray := prog_1_method_14_code
def yX5_stuck : MethodName := ⟨RX5, "stuck", "()I"⟩
abbrev cX5_leads : ByteArray := prog_1_method_15_code
def yX5_leads : MethodName := ⟨RX5, "leads", "(II)I"⟩
abbrev cX5_isBad : ByteArray := prog_1_method_16_code
def yX5_isBad : MethodName := ⟨RX5, "isBad", "(II)Z"⟩
abbrev cX5_trapped : ByteArray := prog_1_method_17_code
def yX5_trapped : MethodName := ⟨RX5, "trapped", "(I)I"⟩
abbrev cX5_way : ByteArray := prog_1_method_18_code
def yX5_way : MethodName := ⟨RX5, "way", "(III)I"⟩
abbrev cX5_branching : ByteArray := prog_1_method_19_code
def yX5_branching : MethodName := ⟨RX5, "branching", "()D"⟩
abbrev cX5_digest : ByteArray := prog_1_method_20_code
def yX5_digest : MethodName := ⟨RX5, "digest", "()J"⟩
abbrev cX5_isBetween : ByteArray := prog_1_method_21_code
def yX5_isBetween : MethodName := ⟨RX5, "isBetween", "(III)Z"⟩
abbrev cX5_amount : ByteArray := prog_1_method_22_code
def yX5_amount : MethodName := ⟨RX5, "amount", "(I)I"⟩
abbrev cX5_canBeFact : ByteArray := prog_1_method_23_code
def yX5_canBeFact : MethodName := ⟨RX5, "canBeFact", "(III)Z"⟩
abbrev cX5_firstStateWith : ByteArray := prog_1_method_24_code
def yX5_firstStateWith : MethodName := ⟨RX5, "firstStateWith", "(I)I"⟩
abbrev cX5_statesWith : ByteArray := prog_1_method_25_code
def yX5_statesWith : MethodName := ⟨RX5, "statesWith", "(I)I"⟩
abbrev cX5_mixedWithState : ByteArray := prog_1_method_26_code
def yX5_mixedWithState : MethodName := ⟨RX5, "mixedWithState", "(JI)J"⟩
abbrev cX5_mixed : ByteArray := prog_1_method_27_code
def yX5_mixed : MethodName := ⟨RX5, "mixed", "(JI)J"⟩
abbrev cX5_locationIn : ByteArray := prog_1_method_28_code
def yX5_locationIn : MethodName := ⟨RX5, "locationIn", "(II)I"⟩
abbrev cX5_withLocation : ByteArray := prog_1_method_29_code
def yX5_withLocation : MethodName := ⟨RX5, "withLocation", "(III)I"⟩
abbrev cX5_valueIn : ByteArray := prog_1_method_30_code
def yX5_valueIn : MethodName := ⟨RX5, "valueIn", "(II)I"⟩
abbrev cX5_withValue : ByteArray := prog_1_method_31_code
def yX5_withValue : MethodName := ⟨RX5, "withValue", "(III)I"⟩
def RX6 : String := "FairCheckerModel"
def TX6 : u_T := fun k => match k with
  | 0 => ("FairCheckerModel", "thrown", "I", false)
  | 1 => ("FairCheckerModel", "processes", "I", false)
  | 2 => ("FairCheckerModel", "locations", "[I", true)
  | 3 => ("FairCheckerModel", "variables", "I", false)
  | 4 => ("FairCheckerModel", "greatest", "[I", true)
  | 5 => ("FairCheckerModel", "begins", "[I", true)
  | 6 => ("FairCheckerModel", "moves", "[I", true)
  | 7 => ("FairCheckerModel", "table", "[I", true)
  | 8 => ("FairCheckerModel", "facts", "I", false)
  | 9 => ("FairCheckerModel", "factTable", "[I", true)
  | 10 => ("FairCheckerModel", "states", "I", false)
  | 11 => ("FairCheckerModel", "steps", "I", false)
  | 12 => ("FairCheckerModel", "keys", "[I", true)
  | 13 => ("FairCheckerModel", "slots", "[I", true)
  | 14 => ("FairCheckerModel", "parents", "[I", true)
  | 15 => ("FairCheckerModel", "parentSteps", "[I", true)
  | 16 => ("FairCheckerModel", "far", "[I", true)
  | 17 => ("FairCheckerModel", "stepsOf", "[I", true)
  | 18 => ("FairCheckerModel", "leadsBy", "[[J", true)
  | 19 => ("FairCheckerModel", "made", "I", false)
  | 20 => ("FairCheckerModel", "row", "[I", true)
  | 21 => ("FairCheckerModel", "reach", "[J", true)
  | 22 => ("FairCheckerModel", "traps", "[J", true)
  | _ => ("FairCheckerModel", "isWithout", "[Z", true)
def tyX6 : Nat → FieldType := fun k => match k with
  | 0 => .int
  | 1 => .int
  | 2 => .array .int
  | 3 => .int
  | 4 => .array .int
  | 5 => .array .int
  | 6 => .array .int
  | 7 => .array .int
  | 8 => .int
  | 9 => .array .int
  | 10 => .int
  | 11 => .int
  | 12 => .array .int
  | 13 => .array .int
  | 14 => .array .int
  | 15 => .array .int
  | 16 => .array .int
  | 17 => .array .int
  | 18 => .array (.array .long)
  | 19 => .int
  | 20 => .array .int
  | 21 => .array .long
  | 22 => .array .long
  | _ => .array .boolean
theorem nmX6 : ∀ a, a < 24 → ∀ b, b < 24 → a ≠ b → (TX6 a).2.1 ≠ (TX6 b).2.1 := by decide +kernel
theorem tyX6_ok : ∀ k, k < 24 → parseFieldDescriptor (TX6 k).2.2.1 = some (tyX6 k) := by decide +kernel
abbrev cX6_init : ByteArray := prog_8_method_1_code
def yX6_init : MethodName := ⟨RX6, "<init>", "()V"⟩
abbrev cX6_thrown : ByteArray := prog_8_method_2_code
def yX6_thrown : MethodName := ⟨RX6, "thrown", "()I"⟩
abbrev cX6_fail : ByteArray := prog_8_method_3_code
def yX6_fail : MethodName := ⟨RX6, "fail", "(I)I"⟩
abbrev cX6_isIn : ByteArray := prog_8_method_4_code
def yX6_isIn : MethodName := ⟨RX6, "isIn", "(III)Z"⟩
abbrev cX6_isProcess : ByteArray := prog_8_method_5_code
def yX6_isProcess : MethodName := ⟨RX6, "isProcess", "(I)Z"⟩
abbrev cX6_isVariable : ByteArray := prog_8_method_6_code
def yX6_isVariable : MethodName := ⟨RX6, "isVariable", "(I)Z"⟩
abbrev cX6_isFact : ByteArray := prog_8_method_7_code
def yX6_isFact : MethodName := ⟨RX6, "isFact", "(I)Z"⟩
abbrev cX6_isState : ByteArray := prog_8_method_8_code
def yX6_isState : MethodName := ⟨RX6, "isState", "(I)Z"⟩
abbrev cX6_get : ByteArray := prog_8_method_9_code
def yX6_get : MethodName := ⟨RX6, "get", "(III)I"⟩
abbrev cX6_forget : ByteArray := prog_8_method_10_code
def yX6_forget : MethodName := ⟨RX6, "forget", "()V"⟩
abbrev cX6_addProcess : ByteArray := prog_8_method_11_code
def yX6_addProcess : MethodName := ⟨RX6, "addProcess", "(I)I"⟩
abbrev cX6_addVariable : ByteArray := prog_8_method_12_code
def yX6_addVariable : MethodName := ⟨RX6, "addVariable", "(II)I"⟩
abbrev cX6_addMove : ByteArray := prog_8_method_13_code
def yX6_addMove : MethodName := ⟨RX6, "addMove", "(IIII)I"⟩
abbrev cX6_set : ByteArray := prog_8_method_14_code
def yX6_set : MethodName := ⟨RX6, "set", "(IIZIIII)I"⟩
abbrev cX6_guard : ByteArray := prog_8_method_15_code
def yX6_guard : MethodName := ⟨RX6, "guard", "(IIIII)I"⟩
abbrev cX6_deed : ByteArray := prog_8_method_16_code
def yX6_deed : MethodName := ⟨RX6, "deed", "(IIIII)I"⟩
abbrev cX6_counted : ByteArray := prog_8_method_17_code
def yX6_counted : MethodName := ⟨RX6, "counted", "(I)I"⟩
abbrev cX6_count : ByteArray := prog_8_method_18_code
def yX6_count : MethodName := ⟨RX6, "count", "(I)I"⟩
abbrev cX6_location : ByteArray := prog_8_method_19_code
def yX6_location : MethodName := ⟨RX6, "location", "(II)I"⟩
abbrev cX6_value : ByteArray := prog_8_method_20_code
def yX6_value : MethodName := ⟨RX6, "value", "(II)I"⟩
abbrev cX6_withLocation : ByteArray := prog_8_method_21_code
def yX6_withLocation : MethodName := ⟨RX6, "withLocation", "(III)I"⟩
abbrev cX6_withValue : ByteArray := prog_8_method_22_code
def yX6_withValue : MethodName := ⟨RX6, "withValue", "(III)I"⟩
abbrev cX6_isGuarded : ByteArray := prog_8_method_23_code
def yX6_isGuarded : MethodName := ⟨RX6, "isGuarded", "(III)Z"⟩
abbrev cX6_behind : ByteArray := prog_8_method_24_code
def yX6_behind : MethodName := ⟨RX6, "behind", "(III)I"⟩
abbrev cX6_isOpen : ByteArray := prog_8_method_25_code
def yX6_isOpen : MethodName := ⟨RX6, "isOpen", "(III)Z"⟩
abbrev cX6_put : ByteArray := prog_8_method_26_code
def yX6_put : MethodName := ⟨RX6, "put", "(IIIII)V"⟩
abbrev cX6_makeSteps : ByteArray := prog_8_method_27_code
def yX6_makeSteps : MethodName := ⟨RX6, "makeSteps", "(I)V"⟩
abbrev cX6_slot : ByteArray := prog_8_method_28_code
def yX6_slot : MethodName := ⟨RX6, "slot", "(I)I"⟩
abbrev cX6_number : ByteArray := prog_8_method_29_code
def yX6_number : MethodName := ⟨RX6, "number", "(I)I"⟩
abbrev cX6_add : ByteArray := prog_8_method_30_code
def yX6_add : MethodName := ⟨RX6, "add", "(III)V"⟩
abbrev cX6_set_ : ByteArray := prog_8_method_31_code
def yX6_set_ : MethodName := ⟨RX6, "set", "([JII)V"⟩
abbrev cX6_has : ByteArray := prog_8_method_32_code
def yX6_has : MethodName := ⟨RX6, "has", "([JII)Z"⟩
abbrev cX6_explore : ByteArray := prog_8_method_33_code
def yX6_explore : MethodName := ⟨RX6, "explore", "()I"⟩
abbrev cX6_stateTold : ByteArray := prog_8_method_34_code
def yX6_stateTold : MethodName := ⟨RX6, "stateTold", "(II)I"⟩
abbrev cX6_state : ByteArray := prog_8_method_35_code
def yX6_state : MethodName := ⟨RX6, "state", "(II)I"⟩
abbrev cX6_stepTold : ByteArray := prog_8_method_36_code
def yX6_stepTold : MethodName := ⟨RX6, "stepTold", "(II)I"⟩
abbrev cX6_step : ByteArray := prog_8_method_37_code
def yX6_step : MethodName := ⟨RX6, "step", "(III)I"⟩
abbrev cX6_addFact : ByteArray := prog_8_method_38_code
def yX6_addFact : MethodName := ⟨RX6, "addFact", "(III)I"⟩
abbrev cX6_isTrue : ByteArray := prog_8_method_39_code
def yX6_isTrue : MethodName := ⟨RX6, "isTrue", "(II)Z"⟩
abbrev cX6_holds : ByteArray := prog_8_method_40_code
def yX6_holds : MethodName := ⟨RX6, "holds", "(II)Z"⟩
abbrev cX6_statesOf : ByteArray := prog_8_method_41_code
def yX6_statesOf : MethodName := ⟨RX6, "statesOf", "(I)I"⟩
abbrev cX6_where : ByteArray := prog_8_method_42_code
def yX6_where : MethodName := ⟨RX6, "where", "(IZ)I"⟩
abbrev cX6_stuck : ByteArray := prog_8_method_43_code
def yX6_stuck : MethodName := ⟨RX6, "stuck", "()I"⟩
abbrev cX6_findReach : ByteArray := prog_8_method_44_code
def yX6_findReach : MethodName := ⟨RX6, "findReach", "(I)V"⟩
abbrev cX6_isTogether : ByteArray := prog_8_method_45_code
def yX6_isTogether : MethodName := ⟨RX6, "isTogether", "(II)Z"⟩
abbrev cX6_isFairTo : ByteArray := prog_8_method_46_code
def yX6_isFairTo : MethodName := ⟨RX6, "isFairTo", "(II)Z"⟩
abbrev cX6_isTrap : ByteArray := prog_8_method_47_code
def yX6_isTrap : MethodName := ⟨RX6, "isTrap", "(I)Z"⟩
abbrev cX6_findTraps : ByteArray := prog_8_method_48_code
def yX6_findTraps : MethodName := ⟨RX6, "findTraps", "(I)I"⟩
abbrev cX6_isBadNow : ByteArray := prog_8_method_49_code
def yX6_isBadNow : MethodName := ⟨RX6, "isBadNow", "(I)Z"⟩
abbrev cX6_leads : ByteArray := prog_8_method_50_code
def yX6_leads : MethodName := ⟨RX6, "leads", "(II)I"⟩
abbrev cX6_isBad : ByteArray := prog_8_method_51_code
def yX6_isBad : MethodName := ⟨RX6, "isBad", "(II)Z"⟩
abbrev cX6_trapped : ByteArray := prog_8_method_52_code
def yX6_trapped : MethodName := ⟨RX6, "trapped", "(I)I"⟩
abbrev cX6_way : ByteArray := prog_8_method_53_code
def yX6_way : MethodName := ⟨RX6, "way", "(III)I"⟩
abbrev cX6_branching : ByteArray := prog_8_method_54_code
def yX6_branching : MethodName := ⟨RX6, "branching", "()D"⟩
abbrev cX6_digest : ByteArray := prog_8_method_55_code
def yX6_digest : MethodName := ⟨RX6, "digest", "()J"⟩
def RJ9 : String := "java/lang/Math"
abbrev cJ9_min_7cf53 : ByteArray := prog_14_method_69_code
def yJ9_min_7cf53 : MethodName := ⟨RJ9, "min", "(II)I"⟩
def RJ0 : String := "java/lang/String"
def RJ10 : String := "java/lang/System"
def RJ7 : String := "java/util/Arrays"
abbrev cJ7_fill_53178 : ByteArray := prog_19_method_103_code
def yJ7_fill_53178 : MethodName := ⟨RJ7, "fill", "([II)V"⟩
abbrev cJ7_copyOf_59c91 : ByteArray := prog_19_method_123_code
def yJ7_copyOf_59c91 : MethodName := ⟨RJ7, "copyOf", "([II)[I"⟩
def RL : String := "FairCheckerLaw"
abbrev cL_addProcess : ByteArray := method_3_code
def yL_addProcess : MethodName := ⟨RL, "addProcess", "(LFairChecker;I[J)I"⟩
abbrev cL_addVariable : ByteArray := method_4_code
def yL_addVariable : MethodName := ⟨RL, "addVariable", "(LFairChecker;II[J)I"⟩
abbrev cL_addMove : ByteArray := method_5_code
def yL_addMove : MethodName := ⟨RL, "addMove", "(LFairChecker;IIII[J)I"⟩
abbrev cL_guard : ByteArray := method_6_code
def yL_guard : MethodName := ⟨RL, "guard", "(LFairChecker;IIIII[J)I"⟩
abbrev cL_deed : ByteArray := method_7_code
def yL_deed : MethodName := ⟨RL, "deed", "(LFairChecker;IIIII[J)I"⟩
abbrev cL_count : ByteArray := method_8_code
def yL_count : MethodName := ⟨RL, "count", "(LFairChecker;I[J)I"⟩
abbrev cL_explore : ByteArray := method_9_code
def yL_explore : MethodName := ⟨RL, "explore", "(LFairChecker;[J)I"⟩
abbrev cL_state : ByteArray := method_10_code
def yL_state : MethodName := ⟨RL, "state", "(LFairChecker;II[J)I"⟩
abbrev cL_step : ByteArray := method_11_code
def yL_step : MethodName := ⟨RL, "step", "(LFairChecker;III[J)I"⟩
abbrev cL_addFact : ByteArray := method_12_code
def yL_addFact : MethodName := ⟨RL, "addFact", "(LFairChecker;III[J)I"⟩
abbrev cL_holds : ByteArray := method_13_code
def yL_holds : MethodName := ⟨RL, "holds", "(LFairChecker;II[J)I"⟩
abbrev cL_where : ByteArray := method_14_code
def yL_where : MethodName := ⟨RL, "where", "(LFairChecker;IZ[J)I"⟩
abbrev cL_stuck : ByteArray := method_15_code
def yL_stuck : MethodName := ⟨RL, "stuck", "(LFairChecker;[J)I"⟩
abbrev cL_leads : ByteArray := method_16_code
def yL_leads : MethodName := ⟨RL, "leads", "(LFairChecker;II[J)I"⟩
abbrev cL_isBad : ByteArray := method_17_code
def yL_isBad : MethodName := ⟨RL, "isBad", "(LFairChecker;II[J)I"⟩
abbrev cL_trapped : ByteArray := method_18_code
def yL_trapped : MethodName := ⟨RL, "trapped", "(LFairChecker;I[J)I"⟩
abbrev cL_way : ByteArray := method_19_code
def yL_way : MethodName := ⟨RL, "way", "(LFairChecker;III[J)I"⟩
abbrev cL_law : ByteArray := code
def yL_law : MethodName := ⟨RL, "law", "([I)Z"⟩
theorem dX0_init_0 : decode cX0_init 0 = .ok (.aload_n 0, 1) := by decide +kernel
theorem dX0_init_1 : decode cX0_init 1 = .ok (.invokespecial 3, 3) := by decide +kernel
theorem dX0_init_4 : decode cX0_init 4 = .ok (.aload_n 0, 1) := by decide +kernel
theorem dX0_init_5 : decode cX0_init 5 = .ok (.bipush 12, 2) := by decide +kernel
theorem dX0_init_7 : decode cX0_init 7 = .ok (.newarray .int, 2) := by decide +kernel
theorem dX0_init_9 : decode cX0_init 9 = .ok (.putfield 9, 3) := by decide +kernel
theorem dX0_init_12 : decode cX0_init 12 = .ok (.aload_n 0, 1) := by decide +kernel
theorem dX0_init_13 : decode cX0_init 13 = .ok (.bipush 12, 2) := by decide +kernel
theorem dX0_init_15 : decode cX0_init 15 = .ok (.newarray .int, 2) := by decide +kernel
theorem dX0_init_17 : decode cX0_init 17 = .ok (.putfield 15, 3) := by decide +kernel
theorem dX0_init_20 : decode cX0_init 20 = .ok (.aload_n 0, 1) := by decide +kernel
theorem dX0_init_21 : decode cX0_init 21 = .ok (.bipush 12, 2) := by decide +kernel
theorem dX0_init_23 : decode cX0_init 23 = .ok (.newarray .int, 2) := by decide +kernel
theorem dX0_init_25 : decode cX0_init 25 = .ok (.putfield 18, 3) := by decide +kernel
theorem dX0_init_28 : decode cX0_init 28 = .ok (.return_, 1) := by decide +kernel
theorem dX0_hasFact_0 : decode cX0_hasFact 0 = .ok (.iload_n 1, 1) := by decide +kernel
theorem dX0_hasFact_1 : decode cX0_hasFact 1 = .ok (.ifCond .lt 15, 3) := by decide +kernel
theorem dX0_hasFact_4 : decode cX0_hasFact 4 = .ok (.iload_n 1, 1) := by decide +kernel
theorem dX0_hasFact_5 : decode cX0_hasFact 5 = .ok (.aload_n 0, 1) := by decide +kernel
theorem dX0_hasFact_6 : decode cX0_hasFact 6 = .ok (.getfield 21, 3) := by decide +kernel
theorem dX0_hasFact_9 : decode cX0_hasFact 9 = .ok (.if_icmp .ge 7, 3) := by decide +kernel
theorem dX0_hasFact_12 : decode cX0_hasFact 12 = .ok (.iconst 1, 1) := by decide +kernel
theorem dX0_hasFact_13 : decode cX0_hasFact 13 = .ok (.goto 4, 3) := by decide +kernel
theorem dX0_hasFact_16 : decode cX0_hasFact 16 = .ok (.iconst 0, 1) := by decide +kernel
theorem dX0_hasFact_17 : decode cX0_hasFact 17 = .ok (.ireturn, 1) := by decide +kernel
theorem dX0_newFact_0 : decode cX0_newFact 0 = .ok (.aload_n 0, 1) := by decide +kernel
theorem dX0_newFact_1 : decode cX0_newFact 1 = .ok (.getfield 9, 3) := by decide +kernel
theorem dX0_newFact_4 : decode cX0_newFact 4 = .ok (.aload_n 0, 1) := by decide +kernel
theorem dX0_newFact_5 : decode cX0_newFact 5 = .ok (.getfield 21, 3) := by decide +kernel
theorem dX0_newFact_8 : decode cX0_newFact 8 = .ok (.iload_n 1, 1) := by decide +kernel
theorem dX0_newFact_9 : decode cX0_newFact 9 = .ok (.iastore, 1) := by decide +kernel
theorem dX0_newFact_10 : decode cX0_newFact 10 = .ok (.aload_n 0, 1) := by decide +kernel
theorem dX0_newFact_11 : decode cX0_newFact 11 = .ok (.getfield 15, 3) := by decide +kernel
theorem dX0_newFact_14 : decode cX0_newFact 14 = .ok (.aload_n 0, 1) := by decide +kernel
theorem dX0_newFact_15 : decode cX0_newFact 15 = .ok (.getfield 21, 3) := by decide +kernel
theorem dX0_newFact_18 : decode cX0_newFact 18 = .ok (.iload_n 2, 1) := by decide +kernel
theorem dX0_newFact_19 : decode cX0_newFact 19 = .ok (.iastore, 1) := by decide +kernel
theorem dX0_newFact_20 : decode cX0_newFact 20 = .ok (.aload_n 0, 1) := by decide +kernel
theorem dX0_newFact_21 : decode cX0_newFact 21 = .ok (.getfield 18, 3) := by decide +kernel
theorem dX0_newFact_24 : decode cX0_newFact 24 = .ok (.aload_n 0, 1) := by decide +kernel
theorem dX0_newFact_25 : decode cX0_newFact 25 = .ok (.getfield 21, 3) := by decide +kernel
theorem dX0_newFact_28 : decode cX0_newFact 28 = .ok (.iload_n 3, 1) := by decide +kernel
theorem dX0_newFact_29 : decode cX0_newFact 29 = .ok (.iastore, 1) := by decide +kernel
theorem dX0_newFact_30 : decode cX0_newFact 30 = .ok (.aload_n 0, 1) := by decide +kernel
theorem dX0_newFact_31 : decode cX0_newFact 31 = .ok (.dup, 1) := by decide +kernel
theorem dX0_newFact_32 : decode cX0_newFact 32 = .ok (.getfield 21, 3) := by decide +kernel
theorem dX0_newFact_35 : decode cX0_newFact 35 = .ok (.iconst 1, 1) := by decide +kernel
theorem dX0_newFact_36 : decode cX0_newFact 36 = .ok (.iadd, 1) := by decide +kernel
theorem dX0_newFact_37 : decode cX0_newFact 37 = .ok (.putfield 21, 3) := by decide +kernel
theorem dX0_newFact_40 : decode cX0_newFact 40 = .ok (.aload_n 0, 1) := by decide +kernel
theorem dX0_newFact_41 : decode cX0_newFact 41 = .ok (.getfield 21, 3) := by decide +kernel
theorem dX0_newFact_44 : decode cX0_newFact 44 = .ok (.iconst 1, 1) := by decide +kernel
theorem dX0_newFact_45 : decode cX0_newFact 45 = .ok (.isub, 1) := by decide +kernel
theorem dX0_newFact_46 : decode cX0_newFact 46 = .ok (.ireturn, 1) := by decide +kernel
theorem dX0_isTrueIn_0 : decode cX0_isTrueIn 0 = .ok (.iconst 0, 1) := by decide +kernel
theorem dX0_isTrueIn_1 : decode cX0_isTrueIn 1 = .ok (.istore_n 3, 1) := by decide +kernel
theorem dX0_isTrueIn_2 : decode cX0_isTrueIn 2 = .ok (.iconst 0, 1) := by decide +kernel
theorem dX0_isTrueIn_3 : decode cX0_isTrueIn 3 = .ok (.istore 4, 2) := by decide +kernel
theorem dX0_isTrueIn_5 : decode cX0_isTrueIn 5 = .ok (.iload 4, 2) := by decide +kernel
theorem dX0_isTrueIn_7 : decode cX0_isTrueIn 7 = .ok (.iload_n 1, 1) := by decide +kernel
theorem dX0_isTrueIn_8 : decode cX0_isTrueIn 8 = .ok (.if_icmp .gt 36, 3) := by decide +kernel
theorem dX0_isTrueIn_11 : decode cX0_isTrueIn 11 = .ok (.iload 4, 2) := by decide +kernel
theorem dX0_isTrueIn_13 : decode cX0_isTrueIn 13 = .ok (.aload_n 0, 1) := by decide +kernel
theorem dX0_isTrueIn_14 : decode cX0_isTrueIn 14 = .ok (.getfield 21, 3) := by decide +kernel
theorem dX0_isTrueIn_17 : decode cX0_isTrueIn 17 = .ok (.if_icmp .ge 27, 3) := by decide +kernel
theorem dX0_isTrueIn_20 : decode cX0_isTrueIn 20 = .ok (.aload_n 0, 1) := by decide +kernel
theorem dX0_isTrueIn_21 : decode cX0_isTrueIn 21 = .ok (.iload 4, 2) := by decide +kernel
theorem dX0_isTrueIn_23 : decode cX0_isTrueIn 23 = .ok (.iload_n 2, 1) := by decide +kernel
theorem dX0_isTrueIn_24 : decode cX0_isTrueIn 24 = .ok (.iload_n 3, 1) := by decide +kernel
theorem dX0_isTrueIn_25 : decode cX0_isTrueIn 25 = .ok (.invokevirtual 25, 3) := by decide +kernel
theorem dX0_isTrueIn_28 : decode cX0_isTrueIn 28 = .ok (.ifCond .eq 10, 3) := by decide +kernel
theorem dX0_isTrueIn_31 : decode cX0_isTrueIn 31 = .ok (.iload_n 3, 1) := by decide +kernel
theorem dX0_isTrueIn_32 : decode cX0_isTrueIn 32 = .ok (.iconst 1, 1) := by decide +kernel
theorem dX0_isTrueIn_33 : decode cX0_isTrueIn 33 = .ok (.iload 4, 2) := by decide +kernel
theorem dX0_isTrueIn_35 : decode cX0_isTrueIn 35 = .ok (.ishl, 1) := by decide +kernel
theorem dX0_isTrueIn_36 : decode cX0_isTrueIn 36 = .ok (.ior, 1) := by decide +kernel
theorem dX0_isTrueIn_37 : decode cX0_isTrueIn 37 = .ok (.istore_n 3, 1) := by decide +kernel
theorem dX0_isTrueIn_38 : decode cX0_isTrueIn 38 = .ok (.iinc 4 1, 3) := by decide +kernel
theorem dX0_isTrueIn_41 : decode cX0_isTrueIn 41 = .ok (.goto (-36), 3) := by decide +kernel
theorem dX0_isTrueIn_44 : decode cX0_isTrueIn 44 = .ok (.iload_n 3, 1) := by decide +kernel
theorem dX0_isTrueIn_45 : decode cX0_isTrueIn 45 = .ok (.iload_n 1, 1) := by decide +kernel
theorem dX0_isTrueIn_46 : decode cX0_isTrueIn 46 = .ok (.invokestatic 29, 3) := by decide +kernel
theorem dX0_isTrueIn_49 : decode cX0_isTrueIn 49 = .ok (.ireturn, 1) := by decide +kernel
theorem dX0_isTrue_0 : decode cX0_isTrue 0 = .ok (.aload_n 0, 1) := by decide +kernel
theorem dX0_isTrue_1 : decode cX0_isTrue 1 = .ok (.getfield 15, 3) := by decide +kernel
theorem dX0_isTrue_4 : decode cX0_isTrue 4 = .ok (.iload_n 1, 1) := by decide +kernel
theorem dX0_isTrue_5 : decode cX0_isTrue 5 = .ok (.iaload, 1) := by decide +kernel
theorem dX0_isTrue_6 : decode cX0_isTrue 6 = .ok (.istore 4, 2) := by decide +kernel
theorem dX0_isTrue_8 : decode cX0_isTrue 8 = .ok (.aload_n 0, 1) := by decide +kernel
theorem dX0_isTrue_9 : decode cX0_isTrue 9 = .ok (.getfield 18, 3) := by decide +kernel
theorem dX0_isTrue_12 : decode cX0_isTrue 12 = .ok (.iload_n 1, 1) := by decide +kernel
theorem dX0_isTrue_13 : decode cX0_isTrue 13 = .ok (.iaload, 1) := by decide +kernel
theorem dX0_isTrue_14 : decode cX0_isTrue 14 = .ok (.istore 5, 2) := by decide +kernel
theorem dX0_isTrue_16 : decode cX0_isTrue 16 = .ok (.aload_n 0, 1) := by decide +kernel
theorem dX0_isTrue_17 : decode cX0_isTrue 17 = .ok (.getfield 9, 3) := by decide +kernel
theorem dX0_isTrue_20 : decode cX0_isTrue 20 = .ok (.iload_n 1, 1) := by decide +kernel
theorem dX0_isTrue_21 : decode cX0_isTrue 21 = .ok (.iaload, 1) := by decide +kernel
theorem dX0_isTrue_22 : decode cX0_isTrue 22 = .ok (.tableswitch 124 0 4 #[34, 51, 68, 85, 100], 34) := by decide +kernel
theorem dX0_isTrue_56 : decode cX0_isTrue 56 = .ok (.iload_n 2, 1) := by decide +kernel
theorem dX0_isTrue_57 : decode cX0_isTrue 57 = .ok (.iload 4, 2) := by decide +kernel
theorem dX0_isTrue_59 : decode cX0_isTrue 59 = .ok (.invokestatic 33, 3) := by decide +kernel
theorem dX0_isTrue_62 : decode cX0_isTrue 62 = .ok (.iload 5, 2) := by decide +kernel
theorem dX0_isTrue_64 : decode cX0_isTrue 64 = .ok (.if_icmp .ne 7, 3) := by decide +kernel
theorem dX0_isTrue_67 : decode cX0_isTrue 67 = .ok (.iconst 1, 1) := by decide +kernel
theorem dX0_isTrue_68 : decode cX0_isTrue 68 = .ok (.goto 4, 3) := by decide +kernel
theorem dX0_isTrue_71 : decode cX0_isTrue 71 = .ok (.iconst 0, 1) := by decide +kernel
theorem dX0_isTrue_72 : decode cX0_isTrue 72 = .ok (.ireturn, 1) := by decide +kernel
theorem dX0_isTrue_73 : decode cX0_isTrue 73 = .ok (.iload_n 2, 1) := by decide +kernel
theorem dX0_isTrue_74 : decode cX0_isTrue 74 = .ok (.iload 4, 2) := by decide +kernel
theorem dX0_isTrue_76 : decode cX0_isTrue 76 = .ok (.invokestatic 37, 3) := by decide +kernel
theorem dX0_isTrue_79 : decode cX0_isTrue 79 = .ok (.iload 5, 2) := by decide +kernel
theorem dX0_isTrue_81 : decode cX0_isTrue 81 = .ok (.if_icmp .ne 7, 3) := by decide +kernel
theorem dX0_isTrue_84 : decode cX0_isTrue 84 = .ok (.iconst 1, 1) := by decide +kernel
theorem dX0_isTrue_85 : decode cX0_isTrue 85 = .ok (.goto 4, 3) := by decide +kernel
theorem dX0_isTrue_88 : decode cX0_isTrue 88 = .ok (.iconst 0, 1) := by decide +kernel
theorem dX0_isTrue_89 : decode cX0_isTrue 89 = .ok (.ireturn, 1) := by decide +kernel
theorem dX0_isTrue_90 : decode cX0_isTrue 90 = .ok (.iload_n 2, 1) := by decide +kernel
theorem dX0_isTrue_91 : decode cX0_isTrue 91 = .ok (.iload 4, 2) := by decide +kernel
theorem dX0_isTrue_93 : decode cX0_isTrue 93 = .ok (.invokestatic 37, 3) := by decide +kernel
theorem dX0_isTrue_96 : decode cX0_isTrue 96 = .ok (.iload 5, 2) := by decide +kernel
theorem dX0_isTrue_98 : decode cX0_isTrue 98 = .ok (.if_icmp .gt 7, 3) := by decide +kernel
theorem dX0_isTrue_101 : decode cX0_isTrue 101 = .ok (.iconst 1, 1) := by decide +kernel
theorem dX0_isTrue_102 : decode cX0_isTrue 102 = .ok (.goto 4, 3) := by decide +kernel
theorem dX0_isTrue_105 : decode cX0_isTrue 105 = .ok (.iconst 0, 1) := by decide +kernel
theorem dX0_isTrue_106 : decode cX0_isTrue 106 = .ok (.ireturn, 1) := by decide +kernel
theorem dX0_isTrue_107 : decode cX0_isTrue 107 = .ok (.iload_n 3, 1) := by decide +kernel
theorem dX0_isTrue_108 : decode cX0_isTrue 108 = .ok (.iload 4, 2) := by decide +kernel
theorem dX0_isTrue_110 : decode cX0_isTrue 110 = .ok (.invokestatic 29, 3) := by decide +kernel
theorem dX0_isTrue_113 : decode cX0_isTrue 113 = .ok (.ifCond .ne 7, 3) := by decide +kernel
theorem dX0_isTrue_116 : decode cX0_isTrue 116 = .ok (.iconst 1, 1) := by decide +kernel
theorem dX0_isTrue_117 : decode cX0_isTrue 117 = .ok (.goto 4, 3) := by decide +kernel
theorem dX0_isTrue_120 : decode cX0_isTrue 120 = .ok (.iconst 0, 1) := by decide +kernel
theorem dX0_isTrue_121 : decode cX0_isTrue 121 = .ok (.ireturn, 1) := by decide +kernel
theorem dX0_isTrue_122 : decode cX0_isTrue 122 = .ok (.iload_n 3, 1) := by decide +kernel
theorem dX0_isTrue_123 : decode cX0_isTrue 123 = .ok (.iload 4, 2) := by decide +kernel
theorem dX0_isTrue_125 : decode cX0_isTrue 125 = .ok (.invokestatic 29, 3) := by decide +kernel
theorem dX0_isTrue_128 : decode cX0_isTrue 128 = .ok (.ifCond .eq 16, 3) := by decide +kernel
theorem dX0_isTrue_131 : decode cX0_isTrue 131 = .ok (.iload_n 3, 1) := by decide +kernel
theorem dX0_isTrue_132 : decode cX0_isTrue 132 = .ok (.iload 5, 2) := by decide +kernel
theorem dX0_isTrue_134 : decode cX0_isTrue 134 = .ok (.invokestatic 29, 3) := by decide +kernel
theorem dX0_isTrue_137 : decode cX0_isTrue 137 = .ok (.ifCond .eq 7, 3) := by decide +kernel
theorem dX0_isTrue_140 : decode cX0_isTrue 140 = .ok (.iconst 1, 1) := by decide +kernel
theorem dX0_isTrue_141 : decode cX0_isTrue 141 = .ok (.goto 4, 3) := by decide +kernel
theorem dX0_isTrue_144 : decode cX0_isTrue 144 = .ok (.iconst 0, 1) := by decide +kernel
theorem dX0_isTrue_145 : decode cX0_isTrue 145 = .ok (.ireturn, 1) := by decide +kernel
theorem dX0_isTrue_146 : decode cX0_isTrue 146 = .ok (.iload_n 3, 1) := by decide +kernel
theorem dX0_isTrue_147 : decode cX0_isTrue 147 = .ok (.iload 4, 2) := by decide +kernel
theorem dX0_isTrue_149 : decode cX0_isTrue 149 = .ok (.invokestatic 29, 3) := by decide +kernel
theorem dX0_isTrue_152 : decode cX0_isTrue 152 = .ok (.ifCond .ne 12, 3) := by decide +kernel
theorem dX0_isTrue_155 : decode cX0_isTrue 155 = .ok (.iload_n 3, 1) := by decide +kernel
theorem dX0_isTrue_156 : decode cX0_isTrue 156 = .ok (.iload 5, 2) := by decide +kernel
theorem dX0_isTrue_158 : decode cX0_isTrue 158 = .ok (.invokestatic 29, 3) := by decide +kernel
theorem dX0_isTrue_161 : decode cX0_isTrue 161 = .ok (.ifCond .eq 7, 3) := by decide +kernel
theorem dX0_isTrue_164 : decode cX0_isTrue 164 = .ok (.iconst 1, 1) := by decide +kernel
theorem dX0_isTrue_165 : decode cX0_isTrue 165 = .ok (.goto 4, 3) := by decide +kernel
theorem dX0_isTrue_168 : decode cX0_isTrue 168 = .ok (.iconst 0, 1) := by decide +kernel
theorem dX0_isTrue_169 : decode cX0_isTrue 169 = .ok (.ireturn, 1) := by decide +kernel
theorem dX0_isKnown_0 : decode cX0_isKnown 0 = .ok (.iload_n 0, 1) := by decide +kernel
theorem dX0_isKnown_1 : decode cX0_isKnown 1 = .ok (.iload_n 1, 1) := by decide +kernel
theorem dX0_isKnown_2 : decode cX0_isKnown 2 = .ok (.iushr, 1) := by decide +kernel
theorem dX0_isKnown_3 : decode cX0_isKnown 3 = .ok (.iconst 1, 1) := by decide +kernel
theorem dX0_isKnown_4 : decode cX0_isKnown 4 = .ok (.iand, 1) := by decide +kernel
theorem dX0_isKnown_5 : decode cX0_isKnown 5 = .ok (.ifCond .eq 7, 3) := by decide +kernel
theorem dX0_isKnown_8 : decode cX0_isKnown 8 = .ok (.iconst 1, 1) := by decide +kernel
theorem dX0_isKnown_9 : decode cX0_isKnown 9 = .ok (.goto 4, 3) := by decide +kernel
theorem dX0_isKnown_12 : decode cX0_isKnown 12 = .ok (.iconst 0, 1) := by decide +kernel
theorem dX0_isKnown_13 : decode cX0_isKnown 13 = .ok (.ireturn, 1) := by decide +kernel
theorem dX1_init_0 : decode cX1_init 0 = .ok (.aload_n 0, 1) := by decide +kernel
theorem dX1_init_1 : decode cX1_init 1 = .ok (.invokespecial 3, 3) := by decide +kernel
theorem dX1_init_4 : decode cX1_init 4 = .ok (.aload_n 0, 1) := by decide +kernel
theorem dX1_init_5 : decode cX1_init 5 = .ok (.iload_n 1, 1) := by decide +kernel
theorem dX1_init_6 : decode cX1_init 6 = .ok (.putfield 9, 3) := by decide +kernel
theorem dX1_init_9 : decode cX1_init 9 = .ok (.aload_n 0, 1) := by decide +kernel
theorem dX1_init_10 : decode cX1_init 10 = .ok (.iload_n 2, 1) := by decide +kernel
theorem dX1_init_11 : decode cX1_init 11 = .ok (.putfield 15, 3) := by decide +kernel
theorem dX1_init_14 : decode cX1_init 14 = .ok (.aload_n 0, 1) := by decide +kernel
theorem dX1_init_15 : decode cX1_init 15 = .ok (.iload_n 3, 1) := by decide +kernel
theorem dX1_init_16 : decode cX1_init 16 = .ok (.putfield 18, 3) := by decide +kernel
theorem dX1_init_19 : decode cX1_init 19 = .ok (.aload_n 0, 1) := by decide +kernel
theorem dX1_init_20 : decode cX1_init 20 = .ok (.iload 4, 2) := by decide +kernel
theorem dX1_init_22 : decode cX1_init 22 = .ok (.putfield 21, 3) := by decide +kernel
theorem dX1_init_25 : decode cX1_init 25 = .ok (.aload_n 0, 1) := by decide +kernel
theorem dX1_init_26 : decode cX1_init 26 = .ok (.iload 5, 2) := by decide +kernel
theorem dX1_init_28 : decode cX1_init 28 = .ok (.putfield 24, 3) := by decide +kernel
theorem dX1_init_31 : decode cX1_init 31 = .ok (.return_, 1) := by decide +kernel
theorem dX1_setGuard_0 : decode cX1_setGuard 0 = .ok (.aload_n 0, 1) := by decide +kernel
theorem dX1_setGuard_1 : decode cX1_setGuard 1 = .ok (.getfield 27, 3) := by decide +kernel
theorem dX1_setGuard_4 : decode cX1_setGuard 4 = .ok (.istore 4, 2) := by decide +kernel
theorem dX1_setGuard_6 : decode cX1_setGuard 6 = .ok (.aload_n 0, 1) := by decide +kernel
theorem dX1_setGuard_7 : decode cX1_setGuard 7 = .ok (.iload_n 1, 1) := by decide +kernel
theorem dX1_setGuard_8 : decode cX1_setGuard 8 = .ok (.putfield 27, 3) := by decide +kernel
theorem dX1_setGuard_11 : decode cX1_setGuard 11 = .ok (.aload_n 0, 1) := by decide +kernel
theorem dX1_setGuard_12 : decode cX1_setGuard 12 = .ok (.iload_n 2, 1) := by decide +kernel
theorem dX1_setGuard_13 : decode cX1_setGuard 13 = .ok (.putfield 30, 3) := by decide +kernel
theorem dX1_setGuard_16 : decode cX1_setGuard 16 = .ok (.aload_n 0, 1) := by decide +kernel
theorem dX1_setGuard_17 : decode cX1_setGuard 17 = .ok (.iload_n 3, 1) := by decide +kernel
theorem dX1_setGuard_18 : decode cX1_setGuard 18 = .ok (.putfield 33, 3) := by decide +kernel
theorem dX1_setGuard_21 : decode cX1_setGuard 21 = .ok (.iload 4, 2) := by decide +kernel
theorem dX1_setGuard_23 : decode cX1_setGuard 23 = .ok (.ireturn, 1) := by decide +kernel
theorem dX1_setDeed_0 : decode cX1_setDeed 0 = .ok (.aload_n 0, 1) := by decide +kernel
theorem dX1_setDeed_1 : decode cX1_setDeed 1 = .ok (.getfield 36, 3) := by decide +kernel
theorem dX1_setDeed_4 : decode cX1_setDeed 4 = .ok (.istore 5, 2) := by decide +kernel
theorem dX1_setDeed_6 : decode cX1_setDeed 6 = .ok (.aload_n 0, 1) := by decide +kernel
theorem dX1_setDeed_7 : decode cX1_setDeed 7 = .ok (.iload_n 1, 1) := by decide +kernel
theorem dX1_setDeed_8 : decode cX1_setDeed 8 = .ok (.putfield 36, 3) := by decide +kernel
theorem dX1_setDeed_11 : decode cX1_setDeed 11 = .ok (.aload_n 0, 1) := by decide +kernel
theorem dX1_setDeed_12 : decode cX1_setDeed 12 = .ok (.iload_n 2, 1) := by decide +kernel
theorem dX1_setDeed_13 : decode cX1_setDeed 13 = .ok (.putfield 39, 3) := by decide +kernel
theorem dX1_setDeed_16 : decode cX1_setDeed 16 = .ok (.aload_n 0, 1) := by decide +kernel
theorem dX1_setDeed_17 : decode cX1_setDeed 17 = .ok (.iload_n 3, 1) := by decide +kernel
theorem dX1_setDeed_18 : decode cX1_setDeed 18 = .ok (.putfield 42, 3) := by decide +kernel
theorem dX1_setDeed_21 : decode cX1_setDeed 21 = .ok (.aload_n 0, 1) := by decide +kernel
theorem dX1_setDeed_22 : decode cX1_setDeed 22 = .ok (.iload 4, 2) := by decide +kernel
theorem dX1_setDeed_24 : decode cX1_setDeed 24 = .ok (.putfield 45, 3) := by decide +kernel
theorem dX1_setDeed_27 : decode cX1_setDeed 27 = .ok (.iload 5, 2) := by decide +kernel
theorem dX1_setDeed_29 : decode cX1_setDeed 29 = .ok (.ireturn, 1) := by decide +kernel
theorem dX1_isOpenIn_0 : decode cX1_isOpenIn 0 = .ok (.iload_n 1, 1) := by decide +kernel
theorem dX1_isOpenIn_1 : decode cX1_isOpenIn 1 = .ok (.aload_n 0, 1) := by decide +kernel
theorem dX1_isOpenIn_2 : decode cX1_isOpenIn 2 = .ok (.getfield 9, 3) := by decide +kernel
theorem dX1_isOpenIn_5 : decode cX1_isOpenIn 5 = .ok (.invokestatic 48, 3) := by decide +kernel
theorem dX1_isOpenIn_8 : decode cX1_isOpenIn 8 = .ok (.aload_n 0, 1) := by decide +kernel
theorem dX1_isOpenIn_9 : decode cX1_isOpenIn 9 = .ok (.getfield 18, 3) := by decide +kernel
theorem dX1_isOpenIn_12 : decode cX1_isOpenIn 12 = .ok (.if_icmp .ne 23, 3) := by decide +kernel
theorem dX1_isOpenIn_15 : decode cX1_isOpenIn 15 = .ok (.aload_n 0, 1) := by decide +kernel
theorem dX1_isOpenIn_16 : decode cX1_isOpenIn 16 = .ok (.iload_n 1, 1) := by decide +kernel
theorem dX1_isOpenIn_17 : decode cX1_isOpenIn 17 = .ok (.invokevirtual 52, 3) := by decide +kernel
theorem dX1_isOpenIn_20 : decode cX1_isOpenIn 20 = .ok (.ifCond .eq 15, 3) := by decide +kernel
theorem dX1_isOpenIn_23 : decode cX1_isOpenIn 23 = .ok (.aload_n 0, 1) := by decide +kernel
theorem dX1_isOpenIn_24 : decode cX1_isOpenIn 24 = .ok (.iload_n 1, 1) := by decide +kernel
theorem dX1_isOpenIn_25 : decode cX1_isOpenIn 25 = .ok (.invokevirtual 56, 3) := by decide +kernel
theorem dX1_isOpenIn_28 : decode cX1_isOpenIn 28 = .ok (.ifCond .lt 7, 3) := by decide +kernel
theorem dX1_isOpenIn_31 : decode cX1_isOpenIn 31 = .ok (.iconst 1, 1) := by decide +kernel
theorem dX1_isOpenIn_32 : decode cX1_isOpenIn 32 = .ok (.goto 4, 3) := by decide +kernel
theorem dX1_isOpenIn_35 : decode cX1_isOpenIn 35 = .ok (.iconst 0, 1) := by decide +kernel
theorem dX1_isOpenIn_36 : decode cX1_isOpenIn 36 = .ok (.ireturn, 1) := by decide +kernel
theorem dX1_guardAllows_0 : decode cX1_guardAllows 0 = .ok (.aload_n 0, 1) := by decide +kernel
theorem dX1_guardAllows_1 : decode cX1_guardAllows 1 = .ok (.getfield 27, 3) := by decide +kernel
theorem dX1_guardAllows_4 : decode cX1_guardAllows 4 = .ok (.tableswitch 116 1 4 #[32, 53, 74, 95], 32) := by decide +kernel
theorem dX1_guardAllows_36 : decode cX1_guardAllows 36 = .ok (.iload_n 1, 1) := by decide +kernel
theorem dX1_guardAllows_37 : decode cX1_guardAllows 37 = .ok (.aload_n 0, 1) := by decide +kernel
theorem dX1_guardAllows_38 : decode cX1_guardAllows 38 = .ok (.getfield 30, 3) := by decide +kernel
theorem dX1_guardAllows_41 : decode cX1_guardAllows 41 = .ok (.invokestatic 60, 3) := by decide +kernel
theorem dX1_guardAllows_44 : decode cX1_guardAllows 44 = .ok (.aload_n 0, 1) := by decide +kernel
theorem dX1_guardAllows_45 : decode cX1_guardAllows 45 = .ok (.getfield 33, 3) := by decide +kernel
theorem dX1_guardAllows_48 : decode cX1_guardAllows 48 = .ok (.if_icmp .ne 7, 3) := by decide +kernel
theorem dX1_guardAllows_51 : decode cX1_guardAllows 51 = .ok (.iconst 1, 1) := by decide +kernel
theorem dX1_guardAllows_52 : decode cX1_guardAllows 52 = .ok (.goto 4, 3) := by decide +kernel
theorem dX1_guardAllows_55 : decode cX1_guardAllows 55 = .ok (.iconst 0, 1) := by decide +kernel
theorem dX1_guardAllows_56 : decode cX1_guardAllows 56 = .ok (.ireturn, 1) := by decide +kernel
theorem dX1_guardAllows_57 : decode cX1_guardAllows 57 = .ok (.iload_n 1, 1) := by decide +kernel
theorem dX1_guardAllows_58 : decode cX1_guardAllows 58 = .ok (.aload_n 0, 1) := by decide +kernel
theorem dX1_guardAllows_59 : decode cX1_guardAllows 59 = .ok (.getfield 30, 3) := by decide +kernel
theorem dX1_guardAllows_62 : decode cX1_guardAllows 62 = .ok (.invokestatic 60, 3) := by decide +kernel
theorem dX1_guardAllows_65 : decode cX1_guardAllows 65 = .ok (.aload_n 0, 1) := by decide +kernel
theorem dX1_guardAllows_66 : decode cX1_guardAllows 66 = .ok (.getfield 33, 3) := by decide +kernel
theorem dX1_guardAllows_69 : decode cX1_guardAllows 69 = .ok (.if_icmp .eq 7, 3) := by decide +kernel
theorem dX1_guardAllows_72 : decode cX1_guardAllows 72 = .ok (.iconst 1, 1) := by decide +kernel
theorem dX1_guardAllows_73 : decode cX1_guardAllows 73 = .ok (.goto 4, 3) := by decide +kernel
theorem dX1_guardAllows_76 : decode cX1_guardAllows 76 = .ok (.iconst 0, 1) := by decide +kernel
theorem dX1_guardAllows_77 : decode cX1_guardAllows 77 = .ok (.ireturn, 1) := by decide +kernel
theorem dX1_guardAllows_78 : decode cX1_guardAllows 78 = .ok (.iload_n 1, 1) := by decide +kernel
theorem dX1_guardAllows_79 : decode cX1_guardAllows 79 = .ok (.aload_n 0, 1) := by decide +kernel
theorem dX1_guardAllows_80 : decode cX1_guardAllows 80 = .ok (.getfield 30, 3) := by decide +kernel
theorem dX1_guardAllows_83 : decode cX1_guardAllows 83 = .ok (.invokestatic 60, 3) := by decide +kernel
theorem dX1_guardAllows_86 : decode cX1_guardAllows 86 = .ok (.aload_n 0, 1) := by decide +kernel
theorem dX1_guardAllows_87 : decode cX1_guardAllows 87 = .ok (.getfield 33, 3) := by decide +kernel
theorem dX1_guardAllows_90 : decode cX1_guardAllows 90 = .ok (.if_icmp .ge 7, 3) := by decide +kernel
theorem dX1_guardAllows_93 : decode cX1_guardAllows 93 = .ok (.iconst 1, 1) := by decide +kernel
theorem dX1_guardAllows_94 : decode cX1_guardAllows 94 = .ok (.goto 4, 3) := by decide +kernel
theorem dX1_guardAllows_97 : decode cX1_guardAllows 97 = .ok (.iconst 0, 1) := by decide +kernel
theorem dX1_guardAllows_98 : decode cX1_guardAllows 98 = .ok (.ireturn, 1) := by decide +kernel
theorem dX1_guardAllows_99 : decode cX1_guardAllows 99 = .ok (.iload_n 1, 1) := by decide +kernel
theorem dX1_guardAllows_100 : decode cX1_guardAllows 100 = .ok (.aload_n 0, 1) := by decide +kernel
theorem dX1_guardAllows_101 : decode cX1_guardAllows 101 = .ok (.getfield 30, 3) := by decide +kernel
theorem dX1_guardAllows_104 : decode cX1_guardAllows 104 = .ok (.invokestatic 60, 3) := by decide +kernel
theorem dX1_guardAllows_107 : decode cX1_guardAllows 107 = .ok (.aload_n 0, 1) := by decide +kernel
theorem dX1_guardAllows_108 : decode cX1_guardAllows 108 = .ok (.getfield 33, 3) := by decide +kernel
theorem dX1_guardAllows_111 : decode cX1_guardAllows 111 = .ok (.if_icmp .le 7, 3) := by decide +kernel
theorem dX1_guardAllows_114 : decode cX1_guardAllows 114 = .ok (.iconst 1, 1) := by decide +kernel
theorem dX1_guardAllows_115 : decode cX1_guardAllows 115 = .ok (.goto 4, 3) := by decide +kernel
theorem dX1_guardAllows_118 : decode cX1_guardAllows 118 = .ok (.iconst 0, 1) := by decide +kernel
theorem dX1_guardAllows_119 : decode cX1_guardAllows 119 = .ok (.ireturn, 1) := by decide +kernel
theorem dX1_guardAllows_120 : decode cX1_guardAllows 120 = .ok (.iconst 1, 1) := by decide +kernel
theorem dX1_guardAllows_121 : decode cX1_guardAllows 121 = .ok (.ireturn, 1) := by decide +kernel
theorem dX1_afterDeed_0 : decode cX1_afterDeed 0 = .ok (.aload_n 0, 1) := by decide +kernel
theorem dX1_afterDeed_1 : decode cX1_afterDeed 1 = .ok (.getfield 36, 3) := by decide +kernel
theorem dX1_afterDeed_4 : decode cX1_afterDeed 4 = .ok (.ifCond .ne 5, 3) := by decide +kernel
theorem dX1_afterDeed_7 : decode cX1_afterDeed 7 = .ok (.iload_n 1, 1) := by decide +kernel
theorem dX1_afterDeed_8 : decode cX1_afterDeed 8 = .ok (.ireturn, 1) := by decide +kernel
theorem dX1_afterDeed_9 : decode cX1_afterDeed 9 = .ok (.aload_n 0, 1) := by decide +kernel
theorem dX1_afterDeed_10 : decode cX1_afterDeed 10 = .ok (.getfield 36, 3) := by decide +kernel
theorem dX1_afterDeed_13 : decode cX1_afterDeed 13 = .ok (.iconst 1, 1) := by decide +kernel
theorem dX1_afterDeed_14 : decode cX1_afterDeed 14 = .ok (.if_icmp .ne 10, 3) := by decide +kernel
theorem dX1_afterDeed_17 : decode cX1_afterDeed 17 = .ok (.aload_n 0, 1) := by decide +kernel
theorem dX1_afterDeed_18 : decode cX1_afterDeed 18 = .ok (.getfield 42, 3) := by decide +kernel
theorem dX1_afterDeed_21 : decode cX1_afterDeed 21 = .ok (.goto 16, 3) := by decide +kernel
theorem dX1_afterDeed_24 : decode cX1_afterDeed 24 = .ok (.iload_n 1, 1) := by decide +kernel
theorem dX1_afterDeed_25 : decode cX1_afterDeed 25 = .ok (.aload_n 0, 1) := by decide +kernel
theorem dX1_afterDeed_26 : decode cX1_afterDeed 26 = .ok (.getfield 39, 3) := by decide +kernel
theorem dX1_afterDeed_29 : decode cX1_afterDeed 29 = .ok (.invokestatic 60, 3) := by decide +kernel
theorem dX1_afterDeed_32 : decode cX1_afterDeed 32 = .ok (.aload_n 0, 1) := by decide +kernel
theorem dX1_afterDeed_33 : decode cX1_afterDeed 33 = .ok (.getfield 42, 3) := by decide +kernel
theorem dX1_afterDeed_36 : decode cX1_afterDeed 36 = .ok (.iadd, 1) := by decide +kernel
theorem dX1_afterDeed_37 : decode cX1_afterDeed 37 = .ok (.istore_n 2, 1) := by decide +kernel
theorem dX1_afterDeed_38 : decode cX1_afterDeed 38 = .ok (.iload_n 2, 1) := by decide +kernel
theorem dX1_afterDeed_39 : decode cX1_afterDeed 39 = .ok (.iconst 0, 1) := by decide +kernel
theorem dX1_afterDeed_40 : decode cX1_afterDeed 40 = .ok (.aload_n 0, 1) := by decide +kernel
theorem dX1_afterDeed_41 : decode cX1_afterDeed 41 = .ok (.getfield 45, 3) := by decide +kernel
theorem dX1_afterDeed_44 : decode cX1_afterDeed 44 = .ok (.invokestatic 63, 3) := by decide +kernel
theorem dX1_afterDeed_47 : decode cX1_afterDeed 47 = .ok (.ifCond .eq 15, 3) := by decide +kernel
theorem dX1_afterDeed_50 : decode cX1_afterDeed 50 = .ok (.iload_n 1, 1) := by decide +kernel
theorem dX1_afterDeed_51 : decode cX1_afterDeed 51 = .ok (.aload_n 0, 1) := by decide +kernel
theorem dX1_afterDeed_52 : decode cX1_afterDeed 52 = .ok (.getfield 39, 3) := by decide +kernel
theorem dX1_afterDeed_55 : decode cX1_afterDeed 55 = .ok (.iload_n 2, 1) := by decide +kernel
theorem dX1_afterDeed_56 : decode cX1_afterDeed 56 = .ok (.invokestatic 67, 3) := by decide +kernel
theorem dX1_afterDeed_59 : decode cX1_afterDeed 59 = .ok (.goto 4, 3) := by decide +kernel
theorem dX1_afterDeed_62 : decode cX1_afterDeed 62 = .ok (.iconst (-1), 1) := by decide +kernel
theorem dX1_afterDeed_63 : decode cX1_afterDeed 63 = .ok (.ireturn, 1) := by decide +kernel
theorem dX1_afterGoing_0 : decode cX1_afterGoing 0 = .ok (.iload_n 1, 1) := by decide +kernel
theorem dX1_afterGoing_1 : decode cX1_afterGoing 1 = .ok (.aload_n 0, 1) := by decide +kernel
theorem dX1_afterGoing_2 : decode cX1_afterGoing 2 = .ok (.getfield 9, 3) := by decide +kernel
theorem dX1_afterGoing_5 : decode cX1_afterGoing 5 = .ok (.aload_n 0, 1) := by decide +kernel
theorem dX1_afterGoing_6 : decode cX1_afterGoing 6 = .ok (.getfield 21, 3) := by decide +kernel
theorem dX1_afterGoing_9 : decode cX1_afterGoing 9 = .ok (.invokestatic 71, 3) := by decide +kernel
theorem dX1_afterGoing_12 : decode cX1_afterGoing 12 = .ok (.ireturn, 1) := by decide +kernel
theorem dX2_init_0 : decode cX2_init 0 = .ok (.aload_n 0, 1) := by decide +kernel
theorem dX2_init_1 : decode cX2_init 1 = .ok (.invokespecial 3, 3) := by decide +kernel
theorem dX2_init_4 : decode cX2_init 4 = .ok (.aload_n 0, 1) := by decide +kernel
theorem dX2_init_5 : decode cX2_init 5 = .ok (.iconst 5, 1) := by decide +kernel
theorem dX2_init_6 : decode cX2_init 6 = .ok (.newarray .int, 2) := by decide +kernel
theorem dX2_init_8 : decode cX2_init 8 = .ok (.putfield 9, 3) := by decide +kernel
theorem dX2_init_11 : decode cX2_init 11 = .ok (.aload_n 0, 1) := by decide +kernel
theorem dX2_init_12 : decode cX2_init 12 = .ok (.iconst 5, 1) := by decide +kernel
theorem dX2_init_13 : decode cX2_init 13 = .ok (.newarray .int, 2) := by decide +kernel
theorem dX2_init_15 : decode cX2_init 15 = .ok (.putfield 15, 3) := by decide +kernel
theorem dX2_init_18 : decode cX2_init 18 = .ok (.aload_n 0, 1) := by decide +kernel
theorem dX2_init_19 : decode cX2_init 19 = .ok (.bipush 80, 2) := by decide +kernel
theorem dX2_init_21 : decode cX2_init 21 = .ok (.anewarray 18, 3) := by decide +kernel
theorem dX2_init_24 : decode cX2_init 24 = .ok (.putfield 20, 3) := by decide +kernel
theorem dX2_init_27 : decode cX2_init 27 = .ok (.aload_n 0, 1) := by decide +kernel
theorem dX2_init_28 : decode cX2_init 28 = .ok (.iconst 4, 1) := by decide +kernel
theorem dX2_init_29 : decode cX2_init 29 = .ok (.newarray .int, 2) := by decide +kernel
theorem dX2_init_31 : decode cX2_init 31 = .ok (.putfield 24, 3) := by decide +kernel
theorem dX2_init_34 : decode cX2_init 34 = .ok (.aload_n 0, 1) := by decide +kernel
theorem dX2_init_35 : decode cX2_init 35 = .ok (.iconst 4, 1) := by decide +kernel
theorem dX2_init_36 : decode cX2_init 36 = .ok (.newarray .int, 2) := by decide +kernel
theorem dX2_init_38 : decode cX2_init 38 = .ok (.putfield 27, 3) := by decide +kernel
theorem dX2_init_41 : decode cX2_init 41 = .ok (.return_, 1) := by decide +kernel
theorem dX2_hasProcess_0 : decode cX2_hasProcess 0 = .ok (.iload_n 1, 1) := by decide +kernel
theorem dX2_hasProcess_1 : decode cX2_hasProcess 1 = .ok (.ifCond .lt 15, 3) := by decide +kernel
theorem dX2_hasProcess_4 : decode cX2_hasProcess 4 = .ok (.iload_n 1, 1) := by decide +kernel
theorem dX2_hasProcess_5 : decode cX2_hasProcess 5 = .ok (.aload_n 0, 1) := by decide +kernel
theorem dX2_hasProcess_6 : decode cX2_hasProcess 6 = .ok (.getfield 30, 3) := by decide +kernel
theorem dX2_hasProcess_9 : decode cX2_hasProcess 9 = .ok (.if_icmp .ge 7, 3) := by decide +kernel
theorem dX2_hasProcess_12 : decode cX2_hasProcess 12 = .ok (.iconst 1, 1) := by decide +kernel
theorem dX2_hasProcess_13 : decode cX2_hasProcess 13 = .ok (.goto 4, 3) := by decide +kernel
theorem dX2_hasProcess_16 : decode cX2_hasProcess 16 = .ok (.iconst 0, 1) := by decide +kernel
theorem dX2_hasProcess_17 : decode cX2_hasProcess 17 = .ok (.ireturn, 1) := by decide +kernel
theorem dX2_hasLocation_0 : decode cX2_hasLocation 0 = .ok (.aload_n 0, 1) := by decide +kernel
theorem dX2_hasLocation_1 : decode cX2_hasLocation 1 = .ok (.iload_n 1, 1) := by decide +kernel
theorem dX2_hasLocation_2 : decode cX2_hasLocation 2 = .ok (.invokevirtual 34, 3) := by decide +kernel
theorem dX2_hasLocation_5 : decode cX2_hasLocation 5 = .ok (.ifCond .eq 21, 3) := by decide +kernel
theorem dX2_hasLocation_8 : decode cX2_hasLocation 8 = .ok (.iload_n 2, 1) := by decide +kernel
theorem dX2_hasLocation_9 : decode cX2_hasLocation 9 = .ok (.ifCond .lt 17, 3) := by decide +kernel
theorem dX2_hasLocation_12 : decode cX2_hasLocation 12 = .ok (.iload_n 2, 1) := by decide +kernel
theorem dX2_hasLocation_13 : decode cX2_hasLocation 13 = .ok (.aload_n 0, 1) := by decide +kernel
theorem dX2_hasLocation_14 : decode cX2_hasLocation 14 = .ok (.getfield 9, 3) := by decide +kernel
theorem dX2_hasLocation_17 : decode cX2_hasLocation 17 = .ok (.iload_n 1, 1) := by decide +kernel
theorem dX2_hasLocation_18 : decode cX2_hasLocation 18 = .ok (.iaload, 1) := by decide +kernel
theorem dX2_hasLocation_19 : decode cX2_hasLocation 19 = .ok (.if_icmp .ge 7, 3) := by decide +kernel
theorem dX2_hasLocation_22 : decode cX2_hasLocation 22 = .ok (.iconst 1, 1) := by decide +kernel
theorem dX2_hasLocation_23 : decode cX2_hasLocation 23 = .ok (.goto 4, 3) := by decide +kernel
theorem dX2_hasLocation_26 : decode cX2_hasLocation 26 = .ok (.iconst 0, 1) := by decide +kernel
theorem dX2_hasLocation_27 : decode cX2_hasLocation 27 = .ok (.ireturn, 1) := by decide +kernel
theorem dX2_hasVariable_0 : decode cX2_hasVariable 0 = .ok (.iload_n 1, 1) := by decide +kernel
theorem dX2_hasVariable_1 : decode cX2_hasVariable 1 = .ok (.ifCond .lt 15, 3) := by decide +kernel
theorem dX2_hasVariable_4 : decode cX2_hasVariable 4 = .ok (.iload_n 1, 1) := by decide +kernel
theorem dX2_hasVariable_5 : decode cX2_hasVariable 5 = .ok (.aload_n 0, 1) := by decide +kernel
theorem dX2_hasVariable_6 : decode cX2_hasVariable 6 = .ok (.getfield 38, 3) := by decide +kernel
theorem dX2_hasVariable_9 : decode cX2_hasVariable 9 = .ok (.if_icmp .ge 7, 3) := by decide +kernel
theorem dX2_hasVariable_12 : decode cX2_hasVariable 12 = .ok (.iconst 1, 1) := by decide +kernel
theorem dX2_hasVariable_13 : decode cX2_hasVariable 13 = .ok (.goto 4, 3) := by decide +kernel
theorem dX2_hasVariable_16 : decode cX2_hasVariable 16 = .ok (.iconst 0, 1) := by decide +kernel
theorem dX2_hasVariable_17 : decode cX2_hasVariable 17 = .ok (.ireturn, 1) := by decide +kernel
theorem dX2_greatestOf_0 : decode cX2_greatestOf 0 = .ok (.aload_n 0, 1) := by decide +kernel
theorem dX2_greatestOf_1 : decode cX2_greatestOf 1 = .ok (.iload_n 1, 1) := by decide +kernel
theorem dX2_greatestOf_2 : decode cX2_greatestOf 2 = .ok (.invokevirtual 41, 3) := by decide +kernel
theorem dX2_greatestOf_5 : decode cX2_greatestOf 5 = .ok (.ifCond .eq 12, 3) := by decide +kernel
theorem dX2_greatestOf_8 : decode cX2_greatestOf 8 = .ok (.aload_n 0, 1) := by decide +kernel
theorem dX2_greatestOf_9 : decode cX2_greatestOf 9 = .ok (.getfield 24, 3) := by decide +kernel
theorem dX2_greatestOf_12 : decode cX2_greatestOf 12 = .ok (.iload_n 1, 1) := by decide +kernel
theorem dX2_greatestOf_13 : decode cX2_greatestOf 13 = .ok (.iaload, 1) := by decide +kernel
theorem dX2_greatestOf_14 : decode cX2_greatestOf 14 = .ok (.goto 4, 3) := by decide +kernel
theorem dX2_greatestOf_17 : decode cX2_greatestOf 17 = .ok (.iconst 0, 1) := by decide +kernel
theorem dX2_greatestOf_18 : decode cX2_greatestOf 18 = .ok (.ireturn, 1) := by decide +kernel
theorem dX2_movesOf_0 : decode cX2_movesOf 0 = .ok (.aload_n 0, 1) := by decide +kernel
theorem dX2_movesOf_1 : decode cX2_movesOf 1 = .ok (.iload_n 1, 1) := by decide +kernel
theorem dX2_movesOf_2 : decode cX2_movesOf 2 = .ok (.invokevirtual 34, 3) := by decide +kernel
theorem dX2_movesOf_5 : decode cX2_movesOf 5 = .ok (.ifCond .eq 12, 3) := by decide +kernel
theorem dX2_movesOf_8 : decode cX2_movesOf 8 = .ok (.aload_n 0, 1) := by decide +kernel
theorem dX2_movesOf_9 : decode cX2_movesOf 9 = .ok (.getfield 15, 3) := by decide +kernel
theorem dX2_movesOf_12 : decode cX2_movesOf 12 = .ok (.iload_n 1, 1) := by decide +kernel
theorem dX2_movesOf_13 : decode cX2_movesOf 13 = .ok (.iaload, 1) := by decide +kernel
theorem dX2_movesOf_14 : decode cX2_movesOf 14 = .ok (.goto 4, 3) := by decide +kernel
theorem dX2_movesOf_17 : decode cX2_movesOf 17 = .ok (.iconst 0, 1) := by decide +kernel
theorem dX2_movesOf_18 : decode cX2_movesOf 18 = .ok (.ireturn, 1) := by decide +kernel
theorem dX2_allMoves_0 : decode cX2_allMoves 0 = .ok (.iconst 0, 1) := by decide +kernel
theorem dX2_allMoves_1 : decode cX2_allMoves 1 = .ok (.istore_n 1, 1) := by decide +kernel
theorem dX2_allMoves_2 : decode cX2_allMoves 2 = .ok (.iconst 0, 1) := by decide +kernel
theorem dX2_allMoves_3 : decode cX2_allMoves 3 = .ok (.istore_n 2, 1) := by decide +kernel
theorem dX2_allMoves_4 : decode cX2_allMoves 4 = .ok (.iload_n 2, 1) := by decide +kernel
theorem dX2_allMoves_5 : decode cX2_allMoves 5 = .ok (.aload_n 0, 1) := by decide +kernel
theorem dX2_allMoves_6 : decode cX2_allMoves 6 = .ok (.getfield 30, 3) := by decide +kernel
theorem dX2_allMoves_9 : decode cX2_allMoves 9 = .ok (.if_icmp .ge 18, 3) := by decide +kernel
theorem dX2_allMoves_12 : decode cX2_allMoves 12 = .ok (.iload_n 1, 1) := by decide +kernel
theorem dX2_allMoves_13 : decode cX2_allMoves 13 = .ok (.aload_n 0, 1) := by decide +kernel
theorem dX2_allMoves_14 : decode cX2_allMoves 14 = .ok (.getfield 15, 3) := by decide +kernel
theorem dX2_allMoves_17 : decode cX2_allMoves 17 = .ok (.iload_n 2, 1) := by decide +kernel
theorem dX2_allMoves_18 : decode cX2_allMoves 18 = .ok (.iaload, 1) := by decide +kernel
theorem dX2_allMoves_19 : decode cX2_allMoves 19 = .ok (.iadd, 1) := by decide +kernel
theorem dX2_allMoves_20 : decode cX2_allMoves 20 = .ok (.istore_n 1, 1) := by decide +kernel
theorem dX2_allMoves_21 : decode cX2_allMoves 21 = .ok (.iinc 2 1, 3) := by decide +kernel
theorem dX2_allMoves_24 : decode cX2_allMoves 24 = .ok (.goto (-20), 3) := by decide +kernel
theorem dX2_allMoves_27 : decode cX2_allMoves 27 = .ok (.iload_n 1, 1) := by decide +kernel
theorem dX2_allMoves_28 : decode cX2_allMoves 28 = .ok (.ireturn, 1) := by decide +kernel
theorem dX2_find_0 : decode cX2_find 0 = .ok (.iload_n 2, 1) := by decide +kernel
theorem dX2_find_1 : decode cX2_find 1 = .ok (.ifCond .lt 12, 3) := by decide +kernel
theorem dX2_find_4 : decode cX2_find 4 = .ok (.iload_n 2, 1) := by decide +kernel
theorem dX2_find_5 : decode cX2_find 5 = .ok (.aload_n 0, 1) := by decide +kernel
theorem dX2_find_6 : decode cX2_find 6 = .ok (.iload_n 1, 1) := by decide +kernel
theorem dX2_find_7 : decode cX2_find 7 = .ok (.invokevirtual 44, 3) := by decide +kernel
theorem dX2_find_10 : decode cX2_find 10 = .ok (.if_icmp .lt 5, 3) := by decide +kernel
theorem dX2_find_13 : decode cX2_find 13 = .ok (.aconst_null, 1) := by decide +kernel
theorem dX2_find_14 : decode cX2_find 14 = .ok (.areturn, 1) := by decide +kernel
theorem dX2_find_15 : decode cX2_find 15 = .ok (.aload_n 0, 1) := by decide +kernel
theorem dX2_find_16 : decode cX2_find 16 = .ok (.getfield 20, 3) := by decide +kernel
theorem dX2_find_19 : decode cX2_find 19 = .ok (.iload_n 1, 1) := by decide +kernel
theorem dX2_find_20 : decode cX2_find 20 = .ok (.bipush 16, 2) := by decide +kernel
theorem dX2_find_22 : decode cX2_find 22 = .ok (.imul, 1) := by decide +kernel
theorem dX2_find_23 : decode cX2_find 23 = .ok (.iload_n 2, 1) := by decide +kernel
theorem dX2_find_24 : decode cX2_find 24 = .ok (.iadd, 1) := by decide +kernel
theorem dX2_find_25 : decode cX2_find 25 = .ok (.aaload, 1) := by decide +kernel
theorem dX2_find_26 : decode cX2_find 26 = .ok (.areturn, 1) := by decide +kernel
theorem dX2_newProcess_0 : decode cX2_newProcess 0 = .ok (.aload_n 0, 1) := by decide +kernel
theorem dX2_newProcess_1 : decode cX2_newProcess 1 = .ok (.getfield 9, 3) := by decide +kernel
theorem dX2_newProcess_4 : decode cX2_newProcess 4 = .ok (.aload_n 0, 1) := by decide +kernel
theorem dX2_newProcess_5 : decode cX2_newProcess 5 = .ok (.getfield 30, 3) := by decide +kernel
theorem dX2_newProcess_8 : decode cX2_newProcess 8 = .ok (.iload_n 1, 1) := by decide +kernel
theorem dX2_newProcess_9 : decode cX2_newProcess 9 = .ok (.iastore, 1) := by decide +kernel
theorem dX2_newProcess_10 : decode cX2_newProcess 10 = .ok (.aload_n 0, 1) := by decide +kernel
theorem dX2_newProcess_11 : decode cX2_newProcess 11 = .ok (.dup, 1) := by decide +kernel
theorem dX2_newProcess_12 : decode cX2_newProcess 12 = .ok (.getfield 30, 3) := by decide +kernel
theorem dX2_newProcess_15 : decode cX2_newProcess 15 = .ok (.iconst 1, 1) := by decide +kernel
theorem dX2_newProcess_16 : decode cX2_newProcess 16 = .ok (.iadd, 1) := by decide +kernel
theorem dX2_newProcess_17 : decode cX2_newProcess 17 = .ok (.putfield 30, 3) := by decide +kernel
theorem dX2_newProcess_20 : decode cX2_newProcess 20 = .ok (.aload_n 0, 1) := by decide +kernel
theorem dX2_newProcess_21 : decode cX2_newProcess 21 = .ok (.getfield 30, 3) := by decide +kernel
theorem dX2_newProcess_24 : decode cX2_newProcess 24 = .ok (.iconst 1, 1) := by decide +kernel
theorem dX2_newProcess_25 : decode cX2_newProcess 25 = .ok (.isub, 1) := by decide +kernel
theorem dX2_newProcess_26 : decode cX2_newProcess 26 = .ok (.ireturn, 1) := by decide +kernel
theorem dX2_newVariable_0 : decode cX2_newVariable 0 = .ok (.aload_n 0, 1) := by decide +kernel
theorem dX2_newVariable_1 : decode cX2_newVariable 1 = .ok (.getfield 24, 3) := by decide +kernel
theorem dX2_newVariable_4 : decode cX2_newVariable 4 = .ok (.aload_n 0, 1) := by decide +kernel
theorem dX2_newVariable_5 : decode cX2_newVariable 5 = .ok (.getfield 38, 3) := by decide +kernel
theorem dX2_newVariable_8 : decode cX2_newVariable 8 = .ok (.iload_n 1, 1) := by decide +kernel
theorem dX2_newVariable_9 : decode cX2_newVariable 9 = .ok (.iastore, 1) := by decide +kernel
theorem dX2_newVariable_10 : decode cX2_newVariable 10 = .ok (.aload_n 0, 1) := by decide +kernel
theorem dX2_newVariable_11 : decode cX2_newVariable 11 = .ok (.getfield 27, 3) := by decide +kernel
theorem dX2_newVariable_14 : decode cX2_newVariable 14 = .ok (.aload_n 0, 1) := by decide +kernel
theorem dX2_newVariable_15 : decode cX2_newVariable 15 = .ok (.getfield 38, 3) := by decide +kernel
theorem dX2_newVariable_18 : decode cX2_newVariable 18 = .ok (.iload_n 2, 1) := by decide +kernel
theorem dX2_newVariable_19 : decode cX2_newVariable 19 = .ok (.iastore, 1) := by decide +kernel
theorem dX2_newVariable_20 : decode cX2_newVariable 20 = .ok (.aload_n 0, 1) := by decide +kernel
theorem dX2_newVariable_21 : decode cX2_newVariable 21 = .ok (.dup, 1) := by decide +kernel
theorem dX2_newVariable_22 : decode cX2_newVariable 22 = .ok (.getfield 38, 3) := by decide +kernel
theorem dX2_newVariable_25 : decode cX2_newVariable 25 = .ok (.iconst 1, 1) := by decide +kernel
theorem dX2_newVariable_26 : decode cX2_newVariable 26 = .ok (.iadd, 1) := by decide +kernel
theorem dX2_newVariable_27 : decode cX2_newVariable 27 = .ok (.putfield 38, 3) := by decide +kernel
theorem dX2_newVariable_30 : decode cX2_newVariable 30 = .ok (.aload_n 0, 1) := by decide +kernel
theorem dX2_newVariable_31 : decode cX2_newVariable 31 = .ok (.getfield 38, 3) := by decide +kernel
theorem dX2_newVariable_34 : decode cX2_newVariable 34 = .ok (.iconst 1, 1) := by decide +kernel
theorem dX2_newVariable_35 : decode cX2_newVariable 35 = .ok (.isub, 1) := by decide +kernel
theorem dX2_newVariable_36 : decode cX2_newVariable 36 = .ok (.ireturn, 1) := by decide +kernel
theorem dX2_newMove_0 : decode cX2_newMove 0 = .ok (.aload_n 0, 1) := by decide +kernel
theorem dX2_newMove_1 : decode cX2_newMove 1 = .ok (.getfield 15, 3) := by decide +kernel
theorem dX2_newMove_4 : decode cX2_newMove 4 = .ok (.iload_n 1, 1) := by decide +kernel
theorem dX2_newMove_5 : decode cX2_newMove 5 = .ok (.iaload, 1) := by decide +kernel
theorem dX2_newMove_6 : decode cX2_newMove 6 = .ok (.istore 5, 2) := by decide +kernel
theorem dX2_newMove_8 : decode cX2_newMove 8 = .ok (.aload_n 0, 1) := by decide +kernel
theorem dX2_newMove_9 : decode cX2_newMove 9 = .ok (.getfield 20, 3) := by decide +kernel
theorem dX2_newMove_12 : decode cX2_newMove 12 = .ok (.iload_n 1, 1) := by decide +kernel
theorem dX2_newMove_13 : decode cX2_newMove 13 = .ok (.bipush 16, 2) := by decide +kernel
theorem dX2_newMove_15 : decode cX2_newMove 15 = .ok (.imul, 1) := by decide +kernel
theorem dX2_newMove_16 : decode cX2_newMove 16 = .ok (.iload 5, 2) := by decide +kernel
theorem dX2_newMove_18 : decode cX2_newMove 18 = .ok (.iadd, 1) := by decide +kernel
theorem dX2_newMove_19 : decode cX2_newMove 19 = .ok (.new 18, 3) := by decide +kernel
theorem dX2_newMove_22 : decode cX2_newMove 22 = .ok (.dup, 1) := by decide +kernel
theorem dX2_newMove_23 : decode cX2_newMove 23 = .ok (.iload_n 1, 1) := by decide +kernel
theorem dX2_newMove_24 : decode cX2_newMove 24 = .ok (.iload 5, 2) := by decide +kernel
theorem dX2_newMove_26 : decode cX2_newMove 26 = .ok (.iload_n 2, 1) := by decide +kernel
theorem dX2_newMove_27 : decode cX2_newMove 27 = .ok (.iload_n 3, 1) := by decide +kernel
theorem dX2_newMove_28 : decode cX2_newMove 28 = .ok (.iload 4, 2) := by decide +kernel
theorem dX2_newMove_30 : decode cX2_newMove 30 = .ok (.invokespecial 48, 3) := by decide +kernel
theorem dX2_newMove_33 : decode cX2_newMove 33 = .ok (.aastore, 1) := by decide +kernel
theorem dX2_newMove_34 : decode cX2_newMove 34 = .ok (.aload_n 0, 1) := by decide +kernel
theorem dX2_newMove_35 : decode cX2_newMove 35 = .ok (.getfield 15, 3) := by decide +kernel
theorem dX2_newMove_38 : decode cX2_newMove 38 = .ok (.iload_n 1, 1) := by decide +kernel
theorem dX2_newMove_39 : decode cX2_newMove 39 = .ok (.iload 5, 2) := by decide +kernel
theorem dX2_newMove_41 : decode cX2_newMove 41 = .ok (.iconst 1, 1) := by decide +kernel
theorem dX2_newMove_42 : decode cX2_newMove 42 = .ok (.iadd, 1) := by decide +kernel
theorem dX2_newMove_43 : decode cX2_newMove 43 = .ok (.iastore, 1) := by decide +kernel
theorem dX2_newMove_44 : decode cX2_newMove 44 = .ok (.iload 5, 2) := by decide +kernel
theorem dX2_newMove_46 : decode cX2_newMove 46 = .ok (.ireturn, 1) := by decide +kernel
theorem dX2_keyAtBeginning_0 : decode cX2_keyAtBeginning 0 = .ok (.iconst 0, 1) := by decide +kernel
theorem dX2_keyAtBeginning_1 : decode cX2_keyAtBeginning 1 = .ok (.istore_n 1, 1) := by decide +kernel
theorem dX2_keyAtBeginning_2 : decode cX2_keyAtBeginning 2 = .ok (.iconst 0, 1) := by decide +kernel
theorem dX2_keyAtBeginning_3 : decode cX2_keyAtBeginning 3 = .ok (.istore_n 2, 1) := by decide +kernel
theorem dX2_keyAtBeginning_4 : decode cX2_keyAtBeginning 4 = .ok (.iload_n 2, 1) := by decide +kernel
theorem dX2_keyAtBeginning_5 : decode cX2_keyAtBeginning 5 = .ok (.aload_n 0, 1) := by decide +kernel
theorem dX2_keyAtBeginning_6 : decode cX2_keyAtBeginning 6 = .ok (.getfield 38, 3) := by decide +kernel
theorem dX2_keyAtBeginning_9 : decode cX2_keyAtBeginning 9 = .ok (.if_icmp .ge 21, 3) := by decide +kernel
theorem dX2_keyAtBeginning_12 : decode cX2_keyAtBeginning 12 = .ok (.iload_n 1, 1) := by decide +kernel
theorem dX2_keyAtBeginning_13 : decode cX2_keyAtBeginning 13 = .ok (.iload_n 2, 1) := by decide +kernel
theorem dX2_keyAtBeginning_14 : decode cX2_keyAtBeginning 14 = .ok (.aload_n 0, 1) := by decide +kernel
theorem dX2_keyAtBeginning_15 : decode cX2_keyAtBeginning 15 = .ok (.getfield 27, 3) := by decide +kernel
theorem dX2_keyAtBeginning_18 : decode cX2_keyAtBeginning 18 = .ok (.iload_n 2, 1) := by decide +kernel
theorem dX2_keyAtBeginning_19 : decode cX2_keyAtBeginning 19 = .ok (.iaload, 1) := by decide +kernel
theorem dX2_keyAtBeginning_20 : decode cX2_keyAtBeginning 20 = .ok (.invokestatic 51, 3) := by decide +kernel
theorem dX2_keyAtBeginning_23 : decode cX2_keyAtBeginning 23 = .ok (.istore_n 1, 1) := by decide +kernel
theorem dX2_keyAtBeginning_24 : decode cX2_keyAtBeginning 24 = .ok (.iinc 2 1, 3) := by decide +kernel
theorem dX2_keyAtBeginning_27 : decode cX2_keyAtBeginning 27 = .ok (.goto (-23), 3) := by decide +kernel
theorem dX2_keyAtBeginning_30 : decode cX2_keyAtBeginning 30 = .ok (.iload_n 1, 1) := by decide +kernel
theorem dX2_keyAtBeginning_31 : decode cX2_keyAtBeginning 31 = .ok (.ireturn, 1) := by decide +kernel
theorem dX3_init_0 : decode cX3_init 0 = .ok (.aload_n 0, 1) := by decide +kernel
theorem dX3_init_1 : decode cX3_init 1 = .ok (.invokespecial 5, 3) := by decide +kernel
theorem dX3_init_4 : decode cX3_init 4 = .ok (.aload_n 0, 1) := by decide +kernel
theorem dX3_init_5 : decode cX3_init 5 = .ok (.sipush 400, 3) := by decide +kernel
theorem dX3_init_8 : decode cX3_init 8 = .ok (.newarray .int, 2) := by decide +kernel
theorem dX3_init_10 : decode cX3_init 10 = .ok (.putfield 11, 3) := by decide +kernel
theorem dX3_init_13 : decode cX3_init 13 = .ok (.aload_n 0, 1) := by decide +kernel
theorem dX3_init_14 : decode cX3_init 14 = .ok (.sipush 400, 3) := by decide +kernel
theorem dX3_init_17 : decode cX3_init 17 = .ok (.newarray .int, 2) := by decide +kernel
theorem dX3_init_19 : decode cX3_init 19 = .ok (.putfield 15, 3) := by decide +kernel
theorem dX3_init_22 : decode cX3_init 22 = .ok (.aload_n 0, 1) := by decide +kernel
theorem dX3_init_23 : decode cX3_init 23 = .ok (.sipush 400, 3) := by decide +kernel
theorem dX3_init_26 : decode cX3_init 26 = .ok (.newarray .int, 2) := by decide +kernel
theorem dX3_init_28 : decode cX3_init 28 = .ok (.putfield 18, 3) := by decide +kernel
theorem dX3_init_31 : decode cX3_init 31 = .ok (.aload_n 0, 1) := by decide +kernel
theorem dX3_init_32 : decode cX3_init 32 = .ok (.sipush 400, 3) := by decide +kernel
theorem dX3_init_35 : decode cX3_init 35 = .ok (.newarray .int, 2) := by decide +kernel
theorem dX3_init_37 : decode cX3_init 37 = .ok (.putfield 21, 3) := by decide +kernel
theorem dX3_init_40 : decode cX3_init 40 = .ok (.aload_n 0, 1) := by decide +kernel
theorem dX3_init_41 : decode cX3_init 41 = .ok (.sipush 400, 3) := by decide +kernel
theorem dX3_init_44 : decode cX3_init 44 = .ok (.newarray .int, 2) := by decide +kernel
theorem dX3_init_46 : decode cX3_init 46 = .ok (.putfield 24, 3) := by decide +kernel
theorem dX3_init_49 : decode cX3_init 49 = .ok (.aload_n 0, 1) := by decide +kernel
theorem dX3_init_50 : decode cX3_init 50 = .ok (.sipush 401, 3) := by decide +kernel
theorem dX3_init_53 : decode cX3_init 53 = .ok (.newarray .int, 2) := by decide +kernel
theorem dX3_init_55 : decode cX3_init 55 = .ok (.putfield 27, 3) := by decide +kernel
theorem dX3_init_58 : decode cX3_init 58 = .ok (.aload_n 0, 1) := by decide +kernel
theorem dX3_init_59 : decode cX3_init 59 = .ok (.sipush 1024, 3) := by decide +kernel
theorem dX3_init_62 : decode cX3_init 62 = .ok (.newarray .int, 2) := by decide +kernel
theorem dX3_init_64 : decode cX3_init 64 = .ok (.putfield 30, 3) := by decide +kernel
theorem dX3_init_67 : decode cX3_init 67 = .ok (.aload_n 0, 1) := by decide +kernel
theorem dX3_init_68 : decode cX3_init 68 = .ok (.sipush 2048, 3) := by decide +kernel
theorem dX3_init_71 : decode cX3_init 71 = .ok (.newarray .int, 2) := by decide +kernel
theorem dX3_init_73 : decode cX3_init 73 = .ok (.putfield 33, 3) := by decide +kernel
theorem dX3_init_76 : decode cX3_init 76 = .ok (.return_, 1) := by decide +kernel
theorem dX3_isExplored_0 : decode cX3_isExplored 0 = .ok (.aload_n 0, 1) := by decide +kernel
theorem dX3_isExplored_1 : decode cX3_isExplored 1 = .ok (.getfield 36, 3) := by decide +kernel
theorem dX3_isExplored_4 : decode cX3_isExplored 4 = .ok (.ifCond .le 7, 3) := by decide +kernel
theorem dX3_isExplored_7 : decode cX3_isExplored 7 = .ok (.iconst 1, 1) := by decide +kernel
theorem dX3_isExplored_8 : decode cX3_isExplored 8 = .ok (.goto 4, 3) := by decide +kernel
theorem dX3_isExplored_11 : decode cX3_isExplored 11 = .ok (.iconst 0, 1) := by decide +kernel
theorem dX3_isExplored_12 : decode cX3_isExplored 12 = .ok (.ireturn, 1) := by decide +kernel
theorem dX3_hasState_0 : decode cX3_hasState 0 = .ok (.iload_n 1, 1) := by decide +kernel
theorem dX3_hasState_1 : decode cX3_hasState 1 = .ok (.ifCond .lt 15, 3) := by decide +kernel
theorem dX3_hasState_4 : decode cX3_hasState 4 = .ok (.iload_n 1, 1) := by decide +kernel
theorem dX3_hasState_5 : decode cX3_hasState 5 = .ok (.aload_n 0, 1) := by decide +kernel
theorem dX3_hasState_6 : decode cX3_hasState 6 = .ok (.getfield 36, 3) := by decide +kernel
theorem dX3_hasState_9 : decode cX3_hasState 9 = .ok (.if_icmp .ge 7, 3) := by decide +kernel
theorem dX3_hasState_12 : decode cX3_hasState 12 = .ok (.iconst 1, 1) := by decide +kernel
theorem dX3_hasState_13 : decode cX3_hasState 13 = .ok (.goto 4, 3) := by decide +kernel
theorem dX3_hasState_16 : decode cX3_hasState 16 = .ok (.iconst 0, 1) := by decide +kernel
theorem dX3_hasState_17 : decode cX3_hasState 17 = .ok (.ireturn, 1) := by decide +kernel
theorem dX3_keyOf_0 : decode cX3_keyOf 0 = .ok (.aload_n 0, 1) := by decide +kernel
theorem dX3_keyOf_1 : decode cX3_keyOf 1 = .ok (.getfield 11, 3) := by decide +kernel
theorem dX3_keyOf_4 : decode cX3_keyOf 4 = .ok (.iload_n 1, 1) := by decide +kernel
theorem dX3_keyOf_5 : decode cX3_keyOf 5 = .ok (.iaload, 1) := by decide +kernel
theorem dX3_keyOf_6 : decode cX3_keyOf 6 = .ok (.ireturn, 1) := by decide +kernel
theorem dX3_depthOf_0 : decode cX3_depthOf 0 = .ok (.aload_n 0, 1) := by decide +kernel
theorem dX3_depthOf_1 : decode cX3_depthOf 1 = .ok (.getfield 15, 3) := by decide +kernel
theorem dX3_depthOf_4 : decode cX3_depthOf 4 = .ok (.iload_n 1, 1) := by decide +kernel
theorem dX3_depthOf_5 : decode cX3_depthOf 5 = .ok (.iaload, 1) := by decide +kernel
theorem dX3_depthOf_6 : decode cX3_depthOf 6 = .ok (.ireturn, 1) := by decide +kernel
theorem dX3_parentOf_0 : decode cX3_parentOf 0 = .ok (.aload_n 0, 1) := by decide +kernel
theorem dX3_parentOf_1 : decode cX3_parentOf 1 = .ok (.getfield 18, 3) := by decide +kernel
theorem dX3_parentOf_4 : decode cX3_parentOf 4 = .ok (.iload_n 1, 1) := by decide +kernel
theorem dX3_parentOf_5 : decode cX3_parentOf 5 = .ok (.iaload, 1) := by decide +kernel
theorem dX3_parentOf_6 : decode cX3_parentOf 6 = .ok (.ireturn, 1) := by decide +kernel
theorem dX3_parentStepOf_0 : decode cX3_parentStepOf 0 = .ok (.aload_n 0, 1) := by decide +kernel
theorem dX3_parentStepOf_1 : decode cX3_parentStepOf 1 = .ok (.getfield 21, 3) := by decide +kernel
theorem dX3_parentStepOf_4 : decode cX3_parentStepOf 4 = .ok (.iload_n 1, 1) := by decide +kernel
theorem dX3_parentStepOf_5 : decode cX3_parentStepOf 5 = .ok (.iaload, 1) := by decide +kernel
theorem dX3_parentStepOf_6 : decode cX3_parentStepOf 6 = .ok (.ireturn, 1) := by decide +kernel
theorem dX3_stepsOf_0 : decode cX3_stepsOf 0 = .ok (.aload_n 0, 1) := by decide +kernel
theorem dX3_stepsOf_1 : decode cX3_stepsOf 1 = .ok (.getfield 27, 3) := by decide +kernel
theorem dX3_stepsOf_4 : decode cX3_stepsOf 4 = .ok (.iload_n 1, 1) := by decide +kernel
theorem dX3_stepsOf_5 : decode cX3_stepsOf 5 = .ok (.iconst 1, 1) := by decide +kernel
theorem dX3_stepsOf_6 : decode cX3_stepsOf 6 = .ok (.iadd, 1) := by decide +kernel
theorem dX3_stepsOf_7 : decode cX3_stepsOf 7 = .ok (.iaload, 1) := by decide +kernel
theorem dX3_stepsOf_8 : decode cX3_stepsOf 8 = .ok (.aload_n 0, 1) := by decide +kernel
theorem dX3_stepsOf_9 : decode cX3_stepsOf 9 = .ok (.getfield 27, 3) := by decide +kernel
theorem dX3_stepsOf_12 : decode cX3_stepsOf 12 = .ok (.iload_n 1, 1) := by decide +kernel
theorem dX3_stepsOf_13 : decode cX3_stepsOf 13 = .ok (.iaload, 1) := by decide +kernel
theorem dX3_stepsOf_14 : decode cX3_stepsOf 14 = .ok (.isub, 1) := by decide +kernel
theorem dX3_stepsOf_15 : decode cX3_stepsOf 15 = .ok (.ireturn, 1) := by decide +kernel
theorem dX3_packedStep_0 : decode cX3_packedStep 0 = .ok (.aload_n 0, 1) := by decide +kernel
theorem dX3_packedStep_1 : decode cX3_packedStep 1 = .ok (.getfield 33, 3) := by decide +kernel
theorem dX3_packedStep_4 : decode cX3_packedStep 4 = .ok (.aload_n 0, 1) := by decide +kernel
theorem dX3_packedStep_5 : decode cX3_packedStep 5 = .ok (.getfield 27, 3) := by decide +kernel
theorem dX3_packedStep_8 : decode cX3_packedStep 8 = .ok (.iload_n 1, 1) := by decide +kernel
theorem dX3_packedStep_9 : decode cX3_packedStep 9 = .ok (.iaload, 1) := by decide +kernel
theorem dX3_packedStep_10 : decode cX3_packedStep 10 = .ok (.iload_n 2, 1) := by decide +kernel
theorem dX3_packedStep_11 : decode cX3_packedStep 11 = .ok (.iadd, 1) := by decide +kernel
theorem dX3_packedStep_12 : decode cX3_packedStep 12 = .ok (.iaload, 1) := by decide +kernel
theorem dX3_packedStep_13 : decode cX3_packedStep 13 = .ok (.ireturn, 1) := by decide +kernel
theorem dX3_takersIn_0 : decode cX3_takersIn 0 = .ok (.aload_n 0, 1) := by decide +kernel
theorem dX3_takersIn_1 : decode cX3_takersIn 1 = .ok (.getfield 24, 3) := by decide +kernel
theorem dX3_takersIn_4 : decode cX3_takersIn 4 = .ok (.iload_n 1, 1) := by decide +kernel
theorem dX3_takersIn_5 : decode cX3_takersIn 5 = .ok (.iaload, 1) := by decide +kernel
theorem dX3_takersIn_6 : decode cX3_takersIn 6 = .ok (.ireturn, 1) := by decide +kernel
theorem dX3_onTheWay_0 : decode cX3_onTheWay 0 = .ok (.iload_n 1, 1) := by decide +kernel
theorem dX3_onTheWay_1 : decode cX3_onTheWay 1 = .ok (.istore_n 3, 1) := by decide +kernel
theorem dX3_onTheWay_2 : decode cX3_onTheWay 2 = .ok (.aload_n 0, 1) := by decide +kernel
theorem dX3_onTheWay_3 : decode cX3_onTheWay 3 = .ok (.getfield 15, 3) := by decide +kernel
theorem dX3_onTheWay_6 : decode cX3_onTheWay 6 = .ok (.iload_n 1, 1) := by decide +kernel
theorem dX3_onTheWay_7 : decode cX3_onTheWay 7 = .ok (.iaload, 1) := by decide +kernel
theorem dX3_onTheWay_8 : decode cX3_onTheWay 8 = .ok (.istore 4, 2) := by decide +kernel
theorem dX3_onTheWay_10 : decode cX3_onTheWay 10 = .ok (.iload 4, 2) := by decide +kernel
theorem dX3_onTheWay_12 : decode cX3_onTheWay 12 = .ok (.iload_n 2, 1) := by decide +kernel
theorem dX3_onTheWay_13 : decode cX3_onTheWay 13 = .ok (.if_icmp .le 16, 3) := by decide +kernel
theorem dX3_onTheWay_16 : decode cX3_onTheWay 16 = .ok (.aload_n 0, 1) := by decide +kernel
theorem dX3_onTheWay_17 : decode cX3_onTheWay 17 = .ok (.getfield 18, 3) := by decide +kernel
theorem dX3_onTheWay_20 : decode cX3_onTheWay 20 = .ok (.iload_n 3, 1) := by decide +kernel
theorem dX3_onTheWay_21 : decode cX3_onTheWay 21 = .ok (.iaload, 1) := by decide +kernel
theorem dX3_onTheWay_22 : decode cX3_onTheWay 22 = .ok (.istore_n 3, 1) := by decide +kernel
theorem dX3_onTheWay_23 : decode cX3_onTheWay 23 = .ok (.iinc 4 (-1), 3) := by decide +kernel
theorem dX3_onTheWay_26 : decode cX3_onTheWay 26 = .ok (.goto (-16), 3) := by decide +kernel
theorem dX3_onTheWay_29 : decode cX3_onTheWay 29 = .ok (.iload_n 3, 1) := by decide +kernel
theorem dX3_onTheWay_30 : decode cX3_onTheWay 30 = .ok (.ireturn, 1) := by decide +kernel
theorem dX3_partOf_0 : decode cX3_partOf 0 = .ok (.iload_n 1, 1) := by decide +kernel
theorem dX3_partOf_1 : decode cX3_partOf 1 = .ok (.tableswitch 63 0 3 #[31, 37, 45, 53], 31) := by decide +kernel
theorem dX3_partOf_32 : decode cX3_partOf 32 = .ok (.iload_n 0, 1) := by decide +kernel
theorem dX3_partOf_33 : decode cX3_partOf 33 = .ok (.sipush 511, 3) := by decide +kernel
theorem dX3_partOf_36 : decode cX3_partOf 36 = .ok (.iand, 1) := by decide +kernel
theorem dX3_partOf_37 : decode cX3_partOf 37 = .ok (.ireturn, 1) := by decide +kernel
theorem dX3_partOf_38 : decode cX3_partOf 38 = .ok (.iload_n 0, 1) := by decide +kernel
theorem dX3_partOf_39 : decode cX3_partOf 39 = .ok (.bipush 9, 2) := by decide +kernel
theorem dX3_partOf_41 : decode cX3_partOf 41 = .ok (.iushr, 1) := by decide +kernel
theorem dX3_partOf_42 : decode cX3_partOf 42 = .ok (.bipush 7, 2) := by decide +kernel
theorem dX3_partOf_44 : decode cX3_partOf 44 = .ok (.iand, 1) := by decide +kernel
theorem dX3_partOf_45 : decode cX3_partOf 45 = .ok (.ireturn, 1) := by decide +kernel
theorem dX3_partOf_46 : decode cX3_partOf 46 = .ok (.iload_n 0, 1) := by decide +kernel
theorem dX3_partOf_47 : decode cX3_partOf 47 = .ok (.bipush 12, 2) := by decide +kernel
theorem dX3_partOf_49 : decode cX3_partOf 49 = .ok (.iushr, 1) := by decide +kernel
theorem dX3_partOf_50 : decode cX3_partOf 50 = .ok (.bipush 15, 2) := by decide +kernel
theorem dX3_partOf_52 : decode cX3_partOf 52 = .ok (.iand, 1) := by decide +kernel
theorem dX3_partOf_53 : decode cX3_partOf 53 = .ok (.ireturn, 1) := by decide +kernel
theorem dX3_partOf_54 : decode cX3_partOf 54 = .ok (.iload_n 0, 1) := by decide +kernel
theorem dX3_partOf_55 : decode cX3_partOf 55 = .ok (.bipush 16, 2) := by decide +kernel
theorem dX3_partOf_57 : decode cX3_partOf 57 = .ok (.iushr, 1) := by decide +kernel
theorem dX3_partOf_58 : decode cX3_partOf 58 = .ok (.bipush 7, 2) := by decide +kernel
theorem dX3_partOf_60 : decode cX3_partOf 60 = .ok (.iand, 1) := by decide +kernel
theorem dX3_partOf_61 : decode cX3_partOf 61 = .ok (.iconst 1, 1) := by decide +kernel
theorem dX3_partOf_62 : decode cX3_partOf 62 = .ok (.isub, 1) := by decide +kernel
theorem dX3_partOf_63 : decode cX3_partOf 63 = .ok (.ireturn, 1) := by decide +kernel
theorem dX3_partOf_64 : decode cX3_partOf 64 = .ok (.iload_n 0, 1) := by decide +kernel
theorem dX3_partOf_65 : decode cX3_partOf 65 = .ok (.bipush 19, 2) := by decide +kernel
theorem dX3_partOf_67 : decode cX3_partOf 67 = .ok (.iushr, 1) := by decide +kernel
theorem dX3_partOf_68 : decode cX3_partOf 68 = .ok (.bipush 31, 2) := by decide +kernel
theorem dX3_partOf_70 : decode cX3_partOf 70 = .ok (.iand, 1) := by decide +kernel
theorem dX3_partOf_71 : decode cX3_partOf 71 = .ok (.iconst 1, 1) := by decide +kernel
theorem dX3_partOf_72 : decode cX3_partOf 72 = .ok (.isub, 1) := by decide +kernel
theorem dX3_partOf_73 : decode cX3_partOf 73 = .ok (.ireturn, 1) := by decide +kernel
theorem dX3_takersOf_0 : decode cX3_takersOf 0 = .ok (.iload_n 0, 1) := by decide +kernel
theorem dX3_takersOf_1 : decode cX3_takersOf 1 = .ok (.iconst 3, 1) := by decide +kernel
theorem dX3_takersOf_2 : decode cX3_takersOf 2 = .ok (.invokestatic 40, 3) := by decide +kernel
theorem dX3_takersOf_5 : decode cX3_takersOf 5 = .ok (.istore_n 1, 1) := by decide +kernel
theorem dX3_takersOf_6 : decode cX3_takersOf 6 = .ok (.iconst 1, 1) := by decide +kernel
theorem dX3_takersOf_7 : decode cX3_takersOf 7 = .ok (.iload_n 0, 1) := by decide +kernel
theorem dX3_takersOf_8 : decode cX3_takersOf 8 = .ok (.iconst 1, 1) := by decide +kernel
theorem dX3_takersOf_9 : decode cX3_takersOf 9 = .ok (.invokestatic 40, 3) := by decide +kernel
theorem dX3_takersOf_12 : decode cX3_takersOf 12 = .ok (.ishl, 1) := by decide +kernel
theorem dX3_takersOf_13 : decode cX3_takersOf 13 = .ok (.iload_n 1, 1) := by decide +kernel
theorem dX3_takersOf_14 : decode cX3_takersOf 14 = .ok (.ifCond .ge 7, 3) := by decide +kernel
theorem dX3_takersOf_17 : decode cX3_takersOf 17 = .ok (.iconst 0, 1) := by decide +kernel
theorem dX3_takersOf_18 : decode cX3_takersOf 18 = .ok (.goto 6, 3) := by decide +kernel
theorem dX3_takersOf_21 : decode cX3_takersOf 21 = .ok (.iconst 1, 1) := by decide +kernel
theorem dX3_takersOf_22 : decode cX3_takersOf 22 = .ok (.iload_n 1, 1) := by decide +kernel
theorem dX3_takersOf_23 : decode cX3_takersOf 23 = .ok (.ishl, 1) := by decide +kernel
theorem dX3_takersOf_24 : decode cX3_takersOf 24 = .ok (.ior, 1) := by decide +kernel
theorem dX3_takersOf_25 : decode cX3_takersOf 25 = .ok (.ireturn, 1) := by decide +kernel
theorem dX3_forget_0 : decode cX3_forget 0 = .ok (.aload_n 0, 1) := by decide +kernel
theorem dX3_forget_1 : decode cX3_forget 1 = .ok (.iconst 0, 1) := by decide +kernel
theorem dX3_forget_2 : decode cX3_forget 2 = .ok (.putfield 36, 3) := by decide +kernel
theorem dX3_forget_5 : decode cX3_forget 5 = .ok (.aload_n 0, 1) := by decide +kernel
theorem dX3_forget_6 : decode cX3_forget 6 = .ok (.iconst 0, 1) := by decide +kernel
theorem dX3_forget_7 : decode cX3_forget 7 = .ok (.putfield 44, 3) := by decide +kernel
theorem dX3_forget_10 : decode cX3_forget 10 = .ok (.aload_n 0, 1) := by decide +kernel
theorem dX3_forget_11 : decode cX3_forget 11 = .ok (.iconst 0, 1) := by decide +kernel
theorem dX3_forget_12 : decode cX3_forget 12 = .ok (.putfield 47, 3) := by decide +kernel
theorem dX3_forget_15 : decode cX3_forget 15 = .ok (.return_, 1) := by decide +kernel
theorem dX3_fill_0 : decode cX3_fill 0 = .ok (.aload_n 0, 1) := by decide +kernel
theorem dX3_fill_1 : decode cX3_fill 1 = .ok (.invokevirtual 51, 3) := by decide +kernel
theorem dX3_fill_4 : decode cX3_fill 4 = .ok (.aload_n 0, 1) := by decide +kernel
theorem dX3_fill_5 : decode cX3_fill 5 = .ok (.getfield 30, 3) := by decide +kernel
theorem dX3_fill_8 : decode cX3_fill 8 = .ok (.iconst (-1), 1) := by decide +kernel
theorem dX3_fill_9 : decode cX3_fill 9 = .ok (.invokestatic 54, 3) := by decide +kernel
theorem dX3_fill_12 : decode cX3_fill 12 = .ok (.aload_n 1, 1) := by decide +kernel
theorem dX3_fill_13 : decode cX3_fill 13 = .ok (.invokevirtual 60, 3) := by decide +kernel
theorem dX3_fill_16 : decode cX3_fill 16 = .ok (.istore_n 2, 1) := by decide +kernel
theorem dX3_fill_17 : decode cX3_fill 17 = .ok (.aload_n 0, 1) := by decide +kernel
theorem dX3_fill_18 : decode cX3_fill 18 = .ok (.iload_n 2, 1) := by decide +kernel
theorem dX3_fill_19 : decode cX3_fill 19 = .ok (.aload_n 0, 1) := by decide +kernel
theorem dX3_fill_20 : decode cX3_fill 20 = .ok (.iload_n 2, 1) := by decide +kernel
theorem dX3_fill_21 : decode cX3_fill 21 = .ok (.invokevirtual 66, 3) := by decide +kernel
theorem dX3_fill_24 : decode cX3_fill 24 = .ok (.iconst 0, 1) := by decide +kernel
theorem dX3_fill_25 : decode cX3_fill 25 = .ok (.iconst 0, 1) := by decide +kernel
theorem dX3_fill_26 : decode cX3_fill 26 = .ok (.invokevirtual 70, 3) := by decide +kernel
theorem dX3_fill_29 : decode cX3_fill 29 = .ok (.iconst 0, 1) := by decide +kernel
theorem dX3_fill_30 : decode cX3_fill 30 = .ok (.istore_n 3, 1) := by decide +kernel
theorem dX3_fill_31 : decode cX3_fill 31 = .ok (.iload_n 3, 1) := by decide +kernel
theorem dX3_fill_32 : decode cX3_fill 32 = .ok (.aload_n 0, 1) := by decide +kernel
theorem dX3_fill_33 : decode cX3_fill 33 = .ok (.getfield 36, 3) := by decide +kernel
theorem dX3_fill_36 : decode cX3_fill 36 = .ok (.if_icmp .ge 29, 3) := by decide +kernel
theorem dX3_fill_39 : decode cX3_fill 39 = .ok (.iload_n 3, 1) := by decide +kernel
theorem dX3_fill_40 : decode cX3_fill 40 = .ok (.sipush 400, 3) := by decide +kernel
theorem dX3_fill_43 : decode cX3_fill 43 = .ok (.if_icmp .ge 22, 3) := by decide +kernel
theorem dX3_fill_46 : decode cX3_fill 46 = .ok (.aload_n 0, 1) := by decide +kernel
theorem dX3_fill_47 : decode cX3_fill 47 = .ok (.getfield 47, 3) := by decide +kernel
theorem dX3_fill_50 : decode cX3_fill 50 = .ok (.ifCond .ne 15, 3) := by decide +kernel
theorem dX3_fill_53 : decode cX3_fill 53 = .ok (.aload_n 0, 1) := by decide +kernel
theorem dX3_fill_54 : decode cX3_fill 54 = .ok (.iload_n 3, 1) := by decide +kernel
theorem dX3_fill_55 : decode cX3_fill 55 = .ok (.aload_n 1, 1) := by decide +kernel
theorem dX3_fill_56 : decode cX3_fill 56 = .ok (.invokevirtual 74, 3) := by decide +kernel
theorem dX3_fill_59 : decode cX3_fill 59 = .ok (.iinc 3 1, 3) := by decide +kernel
theorem dX3_fill_62 : decode cX3_fill 62 = .ok (.goto (-31), 3) := by decide +kernel
theorem dX3_fill_65 : decode cX3_fill 65 = .ok (.aload_n 0, 1) := by decide +kernel
theorem dX3_fill_66 : decode cX3_fill 66 = .ok (.getfield 47, 3) := by decide +kernel
theorem dX3_fill_69 : decode cX3_fill 69 = .ok (.ifCond .eq 9, 3) := by decide +kernel
theorem dX3_fill_72 : decode cX3_fill 72 = .ok (.aload_n 0, 1) := by decide +kernel
theorem dX3_fill_73 : decode cX3_fill 73 = .ok (.invokevirtual 51, 3) := by decide +kernel
theorem dX3_fill_76 : decode cX3_fill 76 = .ok (.iconst (-1), 1) := by decide +kernel
theorem dX3_fill_77 : decode cX3_fill 77 = .ok (.ireturn, 1) := by decide +kernel
theorem dX3_fill_78 : decode cX3_fill 78 = .ok (.aload_n 0, 1) := by decide +kernel
theorem dX3_fill_79 : decode cX3_fill 79 = .ok (.getfield 36, 3) := by decide +kernel
theorem dX3_fill_82 : decode cX3_fill 82 = .ok (.ireturn, 1) := by decide +kernel
theorem dX3_addStepsOf_0 : decode cX3_addStepsOf 0 = .ok (.aload_n 0, 1) := by decide +kernel
theorem dX3_addStepsOf_1 : decode cX3_addStepsOf 1 = .ok (.getfield 11, 3) := by decide +kernel
theorem dX3_addStepsOf_4 : decode cX3_addStepsOf 4 = .ok (.iload_n 1, 1) := by decide +kernel
theorem dX3_addStepsOf_5 : decode cX3_addStepsOf 5 = .ok (.iaload, 1) := by decide +kernel
theorem dX3_addStepsOf_6 : decode cX3_addStepsOf 6 = .ok (.istore_n 3, 1) := by decide +kernel
theorem dX3_addStepsOf_7 : decode cX3_addStepsOf 7 = .ok (.aload_n 0, 1) := by decide +kernel
theorem dX3_addStepsOf_8 : decode cX3_addStepsOf 8 = .ok (.getfield 24, 3) := by decide +kernel
theorem dX3_addStepsOf_11 : decode cX3_addStepsOf 11 = .ok (.iload_n 1, 1) := by decide +kernel
theorem dX3_addStepsOf_12 : decode cX3_addStepsOf 12 = .ok (.iconst 0, 1) := by decide +kernel
theorem dX3_addStepsOf_13 : decode cX3_addStepsOf 13 = .ok (.iastore, 1) := by decide +kernel
theorem dX3_addStepsOf_14 : decode cX3_addStepsOf 14 = .ok (.aload_n 0, 1) := by decide +kernel
theorem dX3_addStepsOf_15 : decode cX3_addStepsOf 15 = .ok (.getfield 27, 3) := by decide +kernel
theorem dX3_addStepsOf_18 : decode cX3_addStepsOf 18 = .ok (.iload_n 1, 1) := by decide +kernel
theorem dX3_addStepsOf_19 : decode cX3_addStepsOf 19 = .ok (.aload_n 0, 1) := by decide +kernel
theorem dX3_addStepsOf_20 : decode cX3_addStepsOf 20 = .ok (.getfield 44, 3) := by decide +kernel
theorem dX3_addStepsOf_23 : decode cX3_addStepsOf 23 = .ok (.iastore, 1) := by decide +kernel
theorem dX3_addStepsOf_24 : decode cX3_addStepsOf 24 = .ok (.iconst 0, 1) := by decide +kernel
theorem dX3_addStepsOf_25 : decode cX3_addStepsOf 25 = .ok (.istore 4, 2) := by decide +kernel
theorem dX3_addStepsOf_27 : decode cX3_addStepsOf 27 = .ok (.iload 4, 2) := by decide +kernel
theorem dX3_addStepsOf_29 : decode cX3_addStepsOf 29 = .ok (.aload_n 2, 1) := by decide +kernel
theorem dX3_addStepsOf_30 : decode cX3_addStepsOf 30 = .ok (.getfield 78, 3) := by decide +kernel
theorem dX3_addStepsOf_33 : decode cX3_addStepsOf 33 = .ok (.if_icmp .ge 61, 3) := by decide +kernel
theorem dX3_addStepsOf_36 : decode cX3_addStepsOf 36 = .ok (.iconst 0, 1) := by decide +kernel
theorem dX3_addStepsOf_37 : decode cX3_addStepsOf 37 = .ok (.istore 5, 2) := by decide +kernel
theorem dX3_addStepsOf_39 : decode cX3_addStepsOf 39 = .ok (.iload 5, 2) := by decide +kernel
theorem dX3_addStepsOf_41 : decode cX3_addStepsOf 41 = .ok (.aload_n 2, 1) := by decide +kernel
theorem dX3_addStepsOf_42 : decode cX3_addStepsOf 42 = .ok (.iload 4, 2) := by decide +kernel
theorem dX3_addStepsOf_44 : decode cX3_addStepsOf 44 = .ok (.invokevirtual 81, 3) := by decide +kernel
theorem dX3_addStepsOf_47 : decode cX3_addStepsOf 47 = .ok (.if_icmp .ge 41, 3) := by decide +kernel
theorem dX3_addStepsOf_50 : decode cX3_addStepsOf 50 = .ok (.aload_n 2, 1) := by decide +kernel
theorem dX3_addStepsOf_51 : decode cX3_addStepsOf 51 = .ok (.iload 4, 2) := by decide +kernel
theorem dX3_addStepsOf_53 : decode cX3_addStepsOf 53 = .ok (.iload 5, 2) := by decide +kernel
theorem dX3_addStepsOf_55 : decode cX3_addStepsOf 55 = .ok (.invokevirtual 84, 3) := by decide +kernel
theorem dX3_addStepsOf_58 : decode cX3_addStepsOf 58 = .ok (.astore 6, 2) := by decide +kernel
theorem dX3_addStepsOf_60 : decode cX3_addStepsOf 60 = .ok (.aload 6, 2) := by decide +kernel
theorem dX3_addStepsOf_62 : decode cX3_addStepsOf 62 = .ok (.ifnull 20, 3) := by decide +kernel
theorem dX3_addStepsOf_65 : decode cX3_addStepsOf 65 = .ok (.aload 6, 2) := by decide +kernel
theorem dX3_addStepsOf_67 : decode cX3_addStepsOf 67 = .ok (.iload_n 3, 1) := by decide +kernel
theorem dX3_addStepsOf_68 : decode cX3_addStepsOf 68 = .ok (.invokevirtual 88, 3) := by decide +kernel
theorem dX3_addStepsOf_71 : decode cX3_addStepsOf 71 = .ok (.ifCond .eq 11, 3) := by decide +kernel
theorem dX3_addStepsOf_74 : decode cX3_addStepsOf 74 = .ok (.aload_n 0, 1) := by decide +kernel
theorem dX3_addStepsOf_75 : decode cX3_addStepsOf 75 = .ok (.aload 6, 2) := by decide +kernel
theorem dX3_addStepsOf_77 : decode cX3_addStepsOf 77 = .ok (.iload_n 1, 1) := by decide +kernel
theorem dX3_addStepsOf_78 : decode cX3_addStepsOf 78 = .ok (.aload_n 2, 1) := by decide +kernel
theorem dX3_addStepsOf_79 : decode cX3_addStepsOf 79 = .ok (.invokevirtual 94, 3) := by decide +kernel
theorem dX3_addStepsOf_82 : decode cX3_addStepsOf 82 = .ok (.iinc 5 1, 3) := by decide +kernel
theorem dX3_addStepsOf_85 : decode cX3_addStepsOf 85 = .ok (.goto (-46), 3) := by decide +kernel
theorem dX3_addStepsOf_88 : decode cX3_addStepsOf 88 = .ok (.iinc 4 1, 3) := by decide +kernel
theorem dX3_addStepsOf_91 : decode cX3_addStepsOf 91 = .ok (.goto (-64), 3) := by decide +kernel
theorem dX3_addStepsOf_94 : decode cX3_addStepsOf 94 = .ok (.aload_n 0, 1) := by decide +kernel
theorem dX3_addStepsOf_95 : decode cX3_addStepsOf 95 = .ok (.getfield 27, 3) := by decide +kernel
theorem dX3_addStepsOf_98 : decode cX3_addStepsOf 98 = .ok (.iload_n 1, 1) := by decide +kernel
theorem dX3_addStepsOf_99 : decode cX3_addStepsOf 99 = .ok (.iconst 1, 1) := by decide +kernel
theorem dX3_addStepsOf_100 : decode cX3_addStepsOf 100 = .ok (.iadd, 1) := by decide +kernel
theorem dX3_addStepsOf_101 : decode cX3_addStepsOf 101 = .ok (.aload_n 0, 1) := by decide +kernel
theorem dX3_addStepsOf_102 : decode cX3_addStepsOf 102 = .ok (.getfield 44, 3) := by decide +kernel
theorem dX3_addStepsOf_105 : decode cX3_addStepsOf 105 = .ok (.iastore, 1) := by decide +kernel
theorem dX3_addStepsOf_106 : decode cX3_addStepsOf 106 = .ok (.return_, 1) := by decide +kernel
theorem dX3_addStepsBy_0 : decode cX3_addStepsBy 0 = .ok (.aload_n 1, 1) := by decide +kernel
theorem dX3_addStepsBy_1 : decode cX3_addStepsBy 1 = .ok (.aload_n 1, 1) := by decide +kernel
theorem dX3_addStepsBy_2 : decode cX3_addStepsBy 2 = .ok (.aload_n 0, 1) := by decide +kernel
theorem dX3_addStepsBy_3 : decode cX3_addStepsBy 3 = .ok (.getfield 11, 3) := by decide +kernel
theorem dX3_addStepsBy_6 : decode cX3_addStepsBy 6 = .ok (.iload_n 2, 1) := by decide +kernel
theorem dX3_addStepsBy_7 : decode cX3_addStepsBy 7 = .ok (.iaload, 1) := by decide +kernel
theorem dX3_addStepsBy_8 : decode cX3_addStepsBy 8 = .ok (.invokevirtual 98, 3) := by decide +kernel
theorem dX3_addStepsBy_11 : decode cX3_addStepsBy 11 = .ok (.invokevirtual 101, 3) := by decide +kernel
theorem dX3_addStepsBy_14 : decode cX3_addStepsBy 14 = .ok (.istore 4, 2) := by decide +kernel
theorem dX3_addStepsBy_16 : decode cX3_addStepsBy 16 = .ok (.aload_n 1, 1) := by decide +kernel
theorem dX3_addStepsBy_17 : decode cX3_addStepsBy 17 = .ok (.getfield 104, 3) := by decide +kernel
theorem dX3_addStepsBy_20 : decode cX3_addStepsBy 20 = .ok (.ifCond .ne 15, 3) := by decide +kernel
theorem dX3_addStepsBy_23 : decode cX3_addStepsBy 23 = .ok (.aload_n 0, 1) := by decide +kernel
theorem dX3_addStepsBy_24 : decode cX3_addStepsBy 24 = .ok (.iload_n 2, 1) := by decide +kernel
theorem dX3_addStepsBy_25 : decode cX3_addStepsBy 25 = .ok (.iload 4, 2) := by decide +kernel
theorem dX3_addStepsBy_27 : decode cX3_addStepsBy 27 = .ok (.aload_n 1, 1) := by decide +kernel
theorem dX3_addStepsBy_28 : decode cX3_addStepsBy 28 = .ok (.invokestatic 107, 3) := by decide +kernel
theorem dX3_addStepsBy_31 : decode cX3_addStepsBy 31 = .ok (.invokevirtual 111, 3) := by decide +kernel
theorem dX3_addStepsBy_34 : decode cX3_addStepsBy 34 = .ok (.return_, 1) := by decide +kernel
theorem dX3_addStepsBy_35 : decode cX3_addStepsBy 35 = .ok (.aload_n 1, 1) := by decide +kernel
theorem dX3_addStepsBy_36 : decode cX3_addStepsBy 36 = .ok (.getfield 115, 3) := by decide +kernel
theorem dX3_addStepsBy_39 : decode cX3_addStepsBy 39 = .ok (.iconst 1, 1) := by decide +kernel
theorem dX3_addStepsBy_40 : decode cX3_addStepsBy 40 = .ok (.iadd, 1) := by decide +kernel
theorem dX3_addStepsBy_41 : decode cX3_addStepsBy 41 = .ok (.istore 5, 2) := by decide +kernel
theorem dX3_addStepsBy_43 : decode cX3_addStepsBy 43 = .ok (.iload 5, 2) := by decide +kernel
theorem dX3_addStepsBy_45 : decode cX3_addStepsBy 45 = .ok (.aload_n 3, 1) := by decide +kernel
theorem dX3_addStepsBy_46 : decode cX3_addStepsBy 46 = .ok (.getfield 78, 3) := by decide +kernel
theorem dX3_addStepsBy_49 : decode cX3_addStepsBy 49 = .ok (.if_icmp .ge 109, 3) := by decide +kernel
theorem dX3_addStepsBy_52 : decode cX3_addStepsBy 52 = .ok (.iconst 0, 1) := by decide +kernel
theorem dX3_addStepsBy_53 : decode cX3_addStepsBy 53 = .ok (.istore 6, 2) := by decide +kernel
theorem dX3_addStepsBy_55 : decode cX3_addStepsBy 55 = .ok (.iload 6, 2) := by decide +kernel
theorem dX3_addStepsBy_57 : decode cX3_addStepsBy 57 = .ok (.aload_n 3, 1) := by decide +kernel
theorem dX3_addStepsBy_58 : decode cX3_addStepsBy 58 = .ok (.iload 5, 2) := by decide +kernel
theorem dX3_addStepsBy_60 : decode cX3_addStepsBy 60 = .ok (.invokevirtual 81, 3) := by decide +kernel
theorem dX3_addStepsBy_63 : decode cX3_addStepsBy 63 = .ok (.if_icmp .ge 89, 3) := by decide +kernel
theorem dX3_addStepsBy_66 : decode cX3_addStepsBy 66 = .ok (.aload_n 3, 1) := by decide +kernel
theorem dX3_addStepsBy_67 : decode cX3_addStepsBy 67 = .ok (.iload 5, 2) := by decide +kernel
theorem dX3_addStepsBy_69 : decode cX3_addStepsBy 69 = .ok (.iload 6, 2) := by decide +kernel
theorem dX3_addStepsBy_71 : decode cX3_addStepsBy 71 = .ok (.invokevirtual 84, 3) := by decide +kernel
theorem dX3_addStepsBy_74 : decode cX3_addStepsBy 74 = .ok (.astore 7, 2) := by decide +kernel
theorem dX3_addStepsBy_76 : decode cX3_addStepsBy 76 = .ok (.aload 7, 2) := by decide +kernel
theorem dX3_addStepsBy_78 : decode cX3_addStepsBy 78 = .ok (.ifnull 68, 3) := by decide +kernel
theorem dX3_addStepsBy_81 : decode cX3_addStepsBy 81 = .ok (.aload 7, 2) := by decide +kernel
theorem dX3_addStepsBy_83 : decode cX3_addStepsBy 83 = .ok (.getfield 104, 3) := by decide +kernel
theorem dX3_addStepsBy_86 : decode cX3_addStepsBy 86 = .ok (.aload_n 1, 1) := by decide +kernel
theorem dX3_addStepsBy_87 : decode cX3_addStepsBy 87 = .ok (.getfield 104, 3) := by decide +kernel
theorem dX3_addStepsBy_90 : decode cX3_addStepsBy 90 = .ok (.if_icmp .ne 56, 3) := by decide +kernel
theorem dX3_addStepsBy_93 : decode cX3_addStepsBy 93 = .ok (.aload 7, 2) := by decide +kernel
theorem dX3_addStepsBy_95 : decode cX3_addStepsBy 95 = .ok (.aload_n 0, 1) := by decide +kernel
theorem dX3_addStepsBy_96 : decode cX3_addStepsBy 96 = .ok (.getfield 11, 3) := by decide +kernel
theorem dX3_addStepsBy_99 : decode cX3_addStepsBy 99 = .ok (.iload_n 2, 1) := by decide +kernel
theorem dX3_addStepsBy_100 : decode cX3_addStepsBy 100 = .ok (.iaload, 1) := by decide +kernel
theorem dX3_addStepsBy_101 : decode cX3_addStepsBy 101 = .ok (.invokevirtual 88, 3) := by decide +kernel
theorem dX3_addStepsBy_104 : decode cX3_addStepsBy 104 = .ok (.ifCond .ne 6, 3) := by decide +kernel
theorem dX3_addStepsBy_107 : decode cX3_addStepsBy 107 = .ok (.goto 39, 3) := by decide +kernel
theorem dX3_addStepsBy_110 : decode cX3_addStepsBy 110 = .ok (.aload 7, 2) := by decide +kernel
theorem dX3_addStepsBy_112 : decode cX3_addStepsBy 112 = .ok (.iload 4, 2) := by decide +kernel
theorem dX3_addStepsBy_114 : decode cX3_addStepsBy 114 = .ok (.invokevirtual 98, 3) := by decide +kernel
theorem dX3_addStepsBy_117 : decode cX3_addStepsBy 117 = .ok (.istore 8, 2) := by decide +kernel
theorem dX3_addStepsBy_119 : decode cX3_addStepsBy 119 = .ok (.iload 8, 2) := by decide +kernel
theorem dX3_addStepsBy_121 : decode cX3_addStepsBy 121 = .ok (.ifCond .lt 25, 3) := by decide +kernel
theorem dX3_addStepsBy_124 : decode cX3_addStepsBy 124 = .ok (.aload_n 0, 1) := by decide +kernel
theorem dX3_addStepsBy_125 : decode cX3_addStepsBy 125 = .ok (.iload_n 2, 1) := by decide +kernel
theorem dX3_addStepsBy_126 : decode cX3_addStepsBy 126 = .ok (.aload 7, 2) := by decide +kernel
theorem dX3_addStepsBy_128 : decode cX3_addStepsBy 128 = .ok (.iload 8, 2) := by decide +kernel
theorem dX3_addStepsBy_130 : decode cX3_addStepsBy 130 = .ok (.invokevirtual 101, 3) := by decide +kernel
theorem dX3_addStepsBy_133 : decode cX3_addStepsBy 133 = .ok (.aload_n 1, 1) := by decide +kernel
theorem dX3_addStepsBy_134 : decode cX3_addStepsBy 134 = .ok (.invokestatic 107, 3) := by decide +kernel
theorem dX3_addStepsBy_137 : decode cX3_addStepsBy 137 = .ok (.aload 7, 2) := by decide +kernel
theorem dX3_addStepsBy_139 : decode cX3_addStepsBy 139 = .ok (.invokestatic 118, 3) := by decide +kernel
theorem dX3_addStepsBy_142 : decode cX3_addStepsBy 142 = .ok (.ior, 1) := by decide +kernel
theorem dX3_addStepsBy_143 : decode cX3_addStepsBy 143 = .ok (.invokevirtual 111, 3) := by decide +kernel
theorem dX3_addStepsBy_146 : decode cX3_addStepsBy 146 = .ok (.iinc 6 1, 3) := by decide +kernel
theorem dX3_addStepsBy_149 : decode cX3_addStepsBy 149 = .ok (.goto (-94), 3) := by decide +kernel
theorem dX3_addStepsBy_152 : decode cX3_addStepsBy 152 = .ok (.iinc 5 1, 3) := by decide +kernel
theorem dX3_addStepsBy_155 : decode cX3_addStepsBy 155 = .ok (.goto (-112), 3) := by decide +kernel
theorem dX3_addStepsBy_158 : decode cX3_addStepsBy 158 = .ok (.return_, 1) := by decide +kernel
theorem dX3_packedMover_0 : decode cX3_packedMover 0 = .ok (.aload_n 0, 1) := by decide +kernel
theorem dX3_packedMover_1 : decode cX3_packedMover 1 = .ok (.getfield 115, 3) := by decide +kernel
theorem dX3_packedMover_4 : decode cX3_packedMover 4 = .ok (.bipush 9, 2) := by decide +kernel
theorem dX3_packedMover_6 : decode cX3_packedMover 6 = .ok (.ishl, 1) := by decide +kernel
theorem dX3_packedMover_7 : decode cX3_packedMover 7 = .ok (.aload_n 0, 1) := by decide +kernel
theorem dX3_packedMover_8 : decode cX3_packedMover 8 = .ok (.getfield 121, 3) := by decide +kernel
theorem dX3_packedMover_11 : decode cX3_packedMover 11 = .ok (.bipush 12, 2) := by decide +kernel
theorem dX3_packedMover_13 : decode cX3_packedMover 13 = .ok (.ishl, 1) := by decide +kernel
theorem dX3_packedMover_14 : decode cX3_packedMover 14 = .ok (.ior, 1) := by decide +kernel
theorem dX3_packedMover_15 : decode cX3_packedMover 15 = .ok (.ireturn, 1) := by decide +kernel
theorem dX3_packedOther_0 : decode cX3_packedOther 0 = .ok (.aload_n 0, 1) := by decide +kernel
theorem dX3_packedOther_1 : decode cX3_packedOther 1 = .ok (.getfield 115, 3) := by decide +kernel
theorem dX3_packedOther_4 : decode cX3_packedOther 4 = .ok (.iconst 1, 1) := by decide +kernel
theorem dX3_packedOther_5 : decode cX3_packedOther 5 = .ok (.iadd, 1) := by decide +kernel
theorem dX3_packedOther_6 : decode cX3_packedOther 6 = .ok (.bipush 16, 2) := by decide +kernel
theorem dX3_packedOther_8 : decode cX3_packedOther 8 = .ok (.ishl, 1) := by decide +kernel
theorem dX3_packedOther_9 : decode cX3_packedOther 9 = .ok (.aload_n 0, 1) := by decide +kernel
theorem dX3_packedOther_10 : decode cX3_packedOther 10 = .ok (.getfield 121, 3) := by decide +kernel
theorem dX3_packedOther_13 : decode cX3_packedOther 13 = .ok (.iconst 1, 1) := by decide +kernel
theorem dX3_packedOther_14 : decode cX3_packedOther 14 = .ok (.iadd, 1) := by decide +kernel
theorem dX3_packedOther_15 : decode cX3_packedOther 15 = .ok (.bipush 19, 2) := by decide +kernel
theorem dX3_packedOther_17 : decode cX3_packedOther 17 = .ok (.ishl, 1) := by decide +kernel
theorem dX3_packedOther_18 : decode cX3_packedOther 18 = .ok (.ior, 1) := by decide +kernel
theorem dX3_packedOther_19 : decode cX3_packedOther 19 = .ok (.ireturn, 1) := by decide +kernel
theorem dX3_addStep_0 : decode cX3_addStep 0 = .ok (.aload_n 0, 1) := by decide +kernel
theorem dX3_addStep_1 : decode cX3_addStep 1 = .ok (.iload_n 2, 1) := by decide +kernel
theorem dX3_addStep_2 : decode cX3_addStep 2 = .ok (.iload_n 1, 1) := by decide +kernel
theorem dX3_addStep_3 : decode cX3_addStep 3 = .ok (.invokevirtual 124, 3) := by decide +kernel
theorem dX3_addStep_6 : decode cX3_addStep 6 = .ok (.istore 4, 2) := by decide +kernel
theorem dX3_addStep_8 : decode cX3_addStep 8 = .ok (.iload 4, 2) := by decide +kernel
theorem dX3_addStep_10 : decode cX3_addStep 10 = .ok (.ifCond .ge 9, 3) := by decide +kernel
theorem dX3_addStep_13 : decode cX3_addStep 13 = .ok (.aload_n 0, 1) := by decide +kernel
theorem dX3_addStep_14 : decode cX3_addStep 14 = .ok (.iconst 1, 1) := by decide +kernel
theorem dX3_addStep_15 : decode cX3_addStep 15 = .ok (.putfield 47, 3) := by decide +kernel
theorem dX3_addStep_18 : decode cX3_addStep 18 = .ok (.return_, 1) := by decide +kernel
theorem dX3_addStep_19 : decode cX3_addStep 19 = .ok (.aload_n 0, 1) := by decide +kernel
theorem dX3_addStep_20 : decode cX3_addStep 20 = .ok (.getfield 44, 3) := by decide +kernel
theorem dX3_addStep_23 : decode cX3_addStep 23 = .ok (.aload_n 0, 1) := by decide +kernel
theorem dX3_addStep_24 : decode cX3_addStep 24 = .ok (.getfield 33, 3) := by decide +kernel
theorem dX3_addStep_27 : decode cX3_addStep 27 = .ok (.arraylength, 1) := by decide +kernel
theorem dX3_addStep_28 : decode cX3_addStep 28 = .ok (.if_icmp .lt 26, 3) := by decide +kernel
theorem dX3_addStep_31 : decode cX3_addStep 31 = .ok (.aload_n 0, 1) := by decide +kernel
theorem dX3_addStep_32 : decode cX3_addStep 32 = .ok (.aload_n 0, 1) := by decide +kernel
theorem dX3_addStep_33 : decode cX3_addStep 33 = .ok (.getfield 33, 3) := by decide +kernel
theorem dX3_addStep_36 : decode cX3_addStep 36 = .ok (.aload_n 0, 1) := by decide +kernel
theorem dX3_addStep_37 : decode cX3_addStep 37 = .ok (.getfield 33, 3) := by decide +kernel
theorem dX3_addStep_40 : decode cX3_addStep 40 = .ok (.arraylength, 1) := by decide +kernel
theorem dX3_addStep_41 : decode cX3_addStep 41 = .ok (.iconst 2, 1) := by decide +kernel
theorem dX3_addStep_42 : decode cX3_addStep 42 = .ok (.imul, 1) := by decide +kernel
theorem dX3_addStep_43 : decode cX3_addStep 43 = .ok (.ldc 127, 2) := by decide +kernel
theorem dX3_addStep_45 : decode cX3_addStep 45 = .ok (.invokestatic 128, 3) := by decide +kernel
theorem dX3_addStep_48 : decode cX3_addStep 48 = .ok (.invokestatic 133, 3) := by decide +kernel
theorem dX3_addStep_51 : decode cX3_addStep 51 = .ok (.putfield 33, 3) := by decide +kernel
theorem dX3_addStep_54 : decode cX3_addStep 54 = .ok (.aload_n 0, 1) := by decide +kernel
theorem dX3_addStep_55 : decode cX3_addStep 55 = .ok (.getfield 33, 3) := by decide +kernel
theorem dX3_addStep_58 : decode cX3_addStep 58 = .ok (.aload_n 0, 1) := by decide +kernel
theorem dX3_addStep_59 : decode cX3_addStep 59 = .ok (.getfield 44, 3) := by decide +kernel
theorem dX3_addStep_62 : decode cX3_addStep 62 = .ok (.iload_n 3, 1) := by decide +kernel
theorem dX3_addStep_63 : decode cX3_addStep 63 = .ok (.iload 4, 2) := by decide +kernel
theorem dX3_addStep_65 : decode cX3_addStep 65 = .ok (.ior, 1) := by decide +kernel
theorem dX3_addStep_66 : decode cX3_addStep 66 = .ok (.iastore, 1) := by decide +kernel
theorem dX3_addStep_67 : decode cX3_addStep 67 = .ok (.aload_n 0, 1) := by decide +kernel
theorem dX3_addStep_68 : decode cX3_addStep 68 = .ok (.dup, 1) := by decide +kernel
theorem dX3_addStep_69 : decode cX3_addStep 69 = .ok (.getfield 44, 3) := by decide +kernel
theorem dX3_addStep_72 : decode cX3_addStep 72 = .ok (.iconst 1, 1) := by decide +kernel
theorem dX3_addStep_73 : decode cX3_addStep 73 = .ok (.iadd, 1) := by decide +kernel
theorem dX3_addStep_74 : decode cX3_addStep 74 = .ok (.putfield 44, 3) := by decide +kernel
theorem dX3_addStep_77 : decode cX3_addStep 77 = .ok (.aload_n 0, 1) := by decide +kernel
theorem dX3_addStep_78 : decode cX3_addStep 78 = .ok (.getfield 24, 3) := by decide +kernel
theorem dX3_addStep_81 : decode cX3_addStep 81 = .ok (.iload_n 1, 1) := by decide +kernel
theorem dX3_addStep_82 : decode cX3_addStep 82 = .ok (.dup2, 1) := by decide +kernel
theorem dX3_addStep_83 : decode cX3_addStep 83 = .ok (.iaload, 1) := by decide +kernel
theorem dX3_addStep_84 : decode cX3_addStep 84 = .ok (.iload_n 3, 1) := by decide +kernel
theorem dX3_addStep_85 : decode cX3_addStep 85 = .ok (.invokestatic 137, 3) := by decide +kernel
theorem dX3_addStep_88 : decode cX3_addStep 88 = .ok (.ior, 1) := by decide +kernel
theorem dX3_addStep_89 : decode cX3_addStep 89 = .ok (.iastore, 1) := by decide +kernel
theorem dX3_addStep_90 : decode cX3_addStep 90 = .ok (.return_, 1) := by decide +kernel
theorem dX3_numberOf_0 : decode cX3_numberOf 0 = .ok (.aload_n 0, 1) := by decide +kernel
theorem dX3_numberOf_1 : decode cX3_numberOf 1 = .ok (.iload_n 1, 1) := by decide +kernel
theorem dX3_numberOf_2 : decode cX3_numberOf 2 = .ok (.invokevirtual 66, 3) := by decide +kernel
theorem dX3_numberOf_5 : decode cX3_numberOf 5 = .ok (.istore_n 3, 1) := by decide +kernel
theorem dX3_numberOf_6 : decode cX3_numberOf 6 = .ok (.aload_n 0, 1) := by decide +kernel
theorem dX3_numberOf_7 : decode cX3_numberOf 7 = .ok (.getfield 30, 3) := by decide +kernel
theorem dX3_numberOf_10 : decode cX3_numberOf 10 = .ok (.iload_n 3, 1) := by decide +kernel
theorem dX3_numberOf_11 : decode cX3_numberOf 11 = .ok (.iaload, 1) := by decide +kernel
theorem dX3_numberOf_12 : decode cX3_numberOf 12 = .ok (.ifCond .lt 10, 3) := by decide +kernel
theorem dX3_numberOf_15 : decode cX3_numberOf 15 = .ok (.aload_n 0, 1) := by decide +kernel
theorem dX3_numberOf_16 : decode cX3_numberOf 16 = .ok (.getfield 30, 3) := by decide +kernel
theorem dX3_numberOf_19 : decode cX3_numberOf 19 = .ok (.iload_n 3, 1) := by decide +kernel
theorem dX3_numberOf_20 : decode cX3_numberOf 20 = .ok (.iaload, 1) := by decide +kernel
theorem dX3_numberOf_21 : decode cX3_numberOf 21 = .ok (.ireturn, 1) := by decide +kernel
theorem dX3_numberOf_22 : decode cX3_numberOf 22 = .ok (.aload_n 0, 1) := by decide +kernel
theorem dX3_numberOf_23 : decode cX3_numberOf 23 = .ok (.getfield 36, 3) := by decide +kernel
theorem dX3_numberOf_26 : decode cX3_numberOf 26 = .ok (.sipush 400, 3) := by decide +kernel
theorem dX3_numberOf_29 : decode cX3_numberOf 29 = .ok (.if_icmp .lt 5, 3) := by decide +kernel
theorem dX3_numberOf_32 : decode cX3_numberOf 32 = .ok (.iconst (-1), 1) := by decide +kernel
theorem dX3_numberOf_33 : decode cX3_numberOf 33 = .ok (.ireturn, 1) := by decide +kernel
theorem dX3_numberOf_34 : decode cX3_numberOf 34 = .ok (.aload_n 0, 1) := by decide +kernel
theorem dX3_numberOf_35 : decode cX3_numberOf 35 = .ok (.iload_n 1, 1) := by decide +kernel
theorem dX3_numberOf_36 : decode cX3_numberOf 36 = .ok (.iload_n 3, 1) := by decide +kernel
theorem dX3_numberOf_37 : decode cX3_numberOf 37 = .ok (.iload_n 2, 1) := by decide +kernel
theorem dX3_numberOf_38 : decode cX3_numberOf 38 = .ok (.aload_n 0, 1) := by decide +kernel
theorem dX3_numberOf_39 : decode cX3_numberOf 39 = .ok (.getfield 15, 3) := by decide +kernel
theorem dX3_numberOf_42 : decode cX3_numberOf 42 = .ok (.iload_n 2, 1) := by decide +kernel
theorem dX3_numberOf_43 : decode cX3_numberOf 43 = .ok (.iaload, 1) := by decide +kernel
theorem dX3_numberOf_44 : decode cX3_numberOf 44 = .ok (.iconst 1, 1) := by decide +kernel
theorem dX3_numberOf_45 : decode cX3_numberOf 45 = .ok (.iadd, 1) := by decide +kernel
theorem dX3_numberOf_46 : decode cX3_numberOf 46 = .ok (.invokevirtual 70, 3) := by decide +kernel
theorem dX3_numberOf_49 : decode cX3_numberOf 49 = .ok (.aload_n 0, 1) := by decide +kernel
theorem dX3_numberOf_50 : decode cX3_numberOf 50 = .ok (.getfield 36, 3) := by decide +kernel
theorem dX3_numberOf_53 : decode cX3_numberOf 53 = .ok (.iconst 1, 1) := by decide +kernel
theorem dX3_numberOf_54 : decode cX3_numberOf 54 = .ok (.isub, 1) := by decide +kernel
theorem dX3_numberOf_55 : decode cX3_numberOf 55 = .ok (.ireturn, 1) := by decide +kernel
theorem dX3_newState_0 : decode cX3_newState 0 = .ok (.aload_n 0, 1) := by decide +kernel
theorem dX3_newState_1 : decode cX3_newState 1 = .ok (.getfield 11, 3) := by decide +kernel
theorem dX3_newState_4 : decode cX3_newState 4 = .ok (.aload_n 0, 1) := by decide +kernel
theorem dX3_newState_5 : decode cX3_newState 5 = .ok (.getfield 36, 3) := by decide +kernel
theorem dX3_newState_8 : decode cX3_newState 8 = .ok (.iload_n 1, 1) := by decide +kernel
theorem dX3_newState_9 : decode cX3_newState 9 = .ok (.iastore, 1) := by decide +kernel
theorem dX3_newState_10 : decode cX3_newState 10 = .ok (.aload_n 0, 1) := by decide +kernel
theorem dX3_newState_11 : decode cX3_newState 11 = .ok (.getfield 15, 3) := by decide +kernel
theorem dX3_newState_14 : decode cX3_newState 14 = .ok (.aload_n 0, 1) := by decide +kernel
theorem dX3_newState_15 : decode cX3_newState 15 = .ok (.getfield 36, 3) := by decide +kernel
theorem dX3_newState_18 : decode cX3_newState 18 = .ok (.iload 4, 2) := by decide +kernel
theorem dX3_newState_20 : decode cX3_newState 20 = .ok (.iastore, 1) := by decide +kernel
theorem dX3_newState_21 : decode cX3_newState 21 = .ok (.aload_n 0, 1) := by decide +kernel
theorem dX3_newState_22 : decode cX3_newState 22 = .ok (.getfield 18, 3) := by decide +kernel
theorem dX3_newState_25 : decode cX3_newState 25 = .ok (.aload_n 0, 1) := by decide +kernel
theorem dX3_newState_26 : decode cX3_newState 26 = .ok (.getfield 36, 3) := by decide +kernel
theorem dX3_newState_29 : decode cX3_newState 29 = .ok (.iload_n 3, 1) := by decide +kernel
theorem dX3_newState_30 : decode cX3_newState 30 = .ok (.iastore, 1) := by decide +kernel
theorem dX3_newState_31 : decode cX3_newState 31 = .ok (.aload_n 0, 1) := by decide +kernel
theorem dX3_newState_32 : decode cX3_newState 32 = .ok (.getfield 21, 3) := by decide +kernel
theorem dX3_newState_35 : decode cX3_newState 35 = .ok (.aload_n 0, 1) := by decide +kernel
theorem dX3_newState_36 : decode cX3_newState 36 = .ok (.getfield 36, 3) := by decide +kernel
theorem dX3_newState_39 : decode cX3_newState 39 = .ok (.aload_n 0, 1) := by decide +kernel
theorem dX3_newState_40 : decode cX3_newState 40 = .ok (.getfield 44, 3) := by decide +kernel
theorem dX3_newState_43 : decode cX3_newState 43 = .ok (.aload_n 0, 1) := by decide +kernel
theorem dX3_newState_44 : decode cX3_newState 44 = .ok (.getfield 27, 3) := by decide +kernel
theorem dX3_newState_47 : decode cX3_newState 47 = .ok (.iload_n 3, 1) := by decide +kernel
theorem dX3_newState_48 : decode cX3_newState 48 = .ok (.iaload, 1) := by decide +kernel
theorem dX3_newState_49 : decode cX3_newState 49 = .ok (.isub, 1) := by decide +kernel
theorem dX3_newState_50 : decode cX3_newState 50 = .ok (.iastore, 1) := by decide +kernel
theorem dX3_newState_51 : decode cX3_newState 51 = .ok (.aload_n 0, 1) := by decide +kernel
theorem dX3_newState_52 : decode cX3_newState 52 = .ok (.getfield 30, 3) := by decide +kernel
theorem dX3_newState_55 : decode cX3_newState 55 = .ok (.iload_n 2, 1) := by decide +kernel
theorem dX3_newState_56 : decode cX3_newState 56 = .ok (.aload_n 0, 1) := by decide +kernel
theorem dX3_newState_57 : decode cX3_newState 57 = .ok (.getfield 36, 3) := by decide +kernel
theorem dX3_newState_60 : decode cX3_newState 60 = .ok (.iastore, 1) := by decide +kernel
theorem dX3_newState_61 : decode cX3_newState 61 = .ok (.aload_n 0, 1) := by decide +kernel
theorem dX3_newState_62 : decode cX3_newState 62 = .ok (.dup, 1) := by decide +kernel
theorem dX3_newState_63 : decode cX3_newState 63 = .ok (.getfield 36, 3) := by decide +kernel
theorem dX3_newState_66 : decode cX3_newState 66 = .ok (.iconst 1, 1) := by decide +kernel
theorem dX3_newState_67 : decode cX3_newState 67 = .ok (.iadd, 1) := by decide +kernel
theorem dX3_newState_68 : decode cX3_newState 68 = .ok (.putfield 36, 3) := by decide +kernel
theorem dX3_newState_71 : decode cX3_newState 71 = .ok (.return_, 1) := by decide +kernel
theorem dX3_slotOf_0 : decode cX3_slotOf 0 = .ok (.iload_n 1, 1) := by decide +kernel
theorem dX3_slotOf_1 : decode cX3_slotOf 1 = .ok (.ldc 140, 2) := by decide +kernel
theorem dX3_slotOf_3 : decode cX3_slotOf 3 = .ok (.imul, 1) := by decide +kernel
theorem dX3_slotOf_4 : decode cX3_slotOf 4 = .ok (.bipush 22, 2) := by decide +kernel
theorem dX3_slotOf_6 : decode cX3_slotOf 6 = .ok (.iushr, 1) := by decide +kernel
theorem dX3_slotOf_7 : decode cX3_slotOf 7 = .ok (.istore_n 2, 1) := by decide +kernel
theorem dX3_slotOf_8 : decode cX3_slotOf 8 = .ok (.iconst 0, 1) := by decide +kernel
theorem dX3_slotOf_9 : decode cX3_slotOf 9 = .ok (.istore_n 3, 1) := by decide +kernel
theorem dX3_slotOf_10 : decode cX3_slotOf 10 = .ok (.iload_n 3, 1) := by decide +kernel
theorem dX3_slotOf_11 : decode cX3_slotOf 11 = .ok (.sipush 1024, 3) := by decide +kernel
theorem dX3_slotOf_14 : decode cX3_slotOf 14 = .ok (.if_icmp .ge 41, 3) := by decide +kernel
theorem dX3_slotOf_17 : decode cX3_slotOf 17 = .ok (.aload_n 0, 1) := by decide +kernel
theorem dX3_slotOf_18 : decode cX3_slotOf 18 = .ok (.getfield 30, 3) := by decide +kernel
theorem dX3_slotOf_21 : decode cX3_slotOf 21 = .ok (.iload_n 2, 1) := by decide +kernel
theorem dX3_slotOf_22 : decode cX3_slotOf 22 = .ok (.iaload, 1) := by decide +kernel
theorem dX3_slotOf_23 : decode cX3_slotOf 23 = .ok (.ifCond .lt 32, 3) := by decide +kernel
theorem dX3_slotOf_26 : decode cX3_slotOf 26 = .ok (.aload_n 0, 1) := by decide +kernel
theorem dX3_slotOf_27 : decode cX3_slotOf 27 = .ok (.getfield 11, 3) := by decide +kernel
theorem dX3_slotOf_30 : decode cX3_slotOf 30 = .ok (.aload_n 0, 1) := by decide +kernel
theorem dX3_slotOf_31 : decode cX3_slotOf 31 = .ok (.getfield 30, 3) := by decide +kernel
theorem dX3_slotOf_34 : decode cX3_slotOf 34 = .ok (.iload_n 2, 1) := by decide +kernel
theorem dX3_slotOf_35 : decode cX3_slotOf 35 = .ok (.iaload, 1) := by decide +kernel
theorem dX3_slotOf_36 : decode cX3_slotOf 36 = .ok (.iaload, 1) := by decide +kernel
theorem dX3_slotOf_37 : decode cX3_slotOf 37 = .ok (.iload_n 1, 1) := by decide +kernel
theorem dX3_slotOf_38 : decode cX3_slotOf 38 = .ok (.if_icmp .eq 17, 3) := by decide +kernel
theorem dX3_slotOf_41 : decode cX3_slotOf 41 = .ok (.iload_n 2, 1) := by decide +kernel
theorem dX3_slotOf_42 : decode cX3_slotOf 42 = .ok (.iconst 1, 1) := by decide +kernel
theorem dX3_slotOf_43 : decode cX3_slotOf 43 = .ok (.iadd, 1) := by decide +kernel
theorem dX3_slotOf_44 : decode cX3_slotOf 44 = .ok (.sipush 1023, 3) := by decide +kernel
theorem dX3_slotOf_47 : decode cX3_slotOf 47 = .ok (.iand, 1) := by decide +kernel
theorem dX3_slotOf_48 : decode cX3_slotOf 48 = .ok (.istore_n 2, 1) := by decide +kernel
theorem dX3_slotOf_49 : decode cX3_slotOf 49 = .ok (.iinc 3 1, 3) := by decide +kernel
theorem dX3_slotOf_52 : decode cX3_slotOf 52 = .ok (.goto (-42), 3) := by decide +kernel
theorem dX3_slotOf_55 : decode cX3_slotOf 55 = .ok (.iload_n 2, 1) := by decide +kernel
theorem dX3_slotOf_56 : decode cX3_slotOf 56 = .ok (.ireturn, 1) := by decide +kernel
theorem dX4_init_0 : decode cX4_init 0 = .ok (.aload_n 0, 1) := by decide +kernel
theorem dX4_init_1 : decode cX4_init 1 = .ok (.invokespecial 3, 3) := by decide +kernel
theorem dX4_init_4 : decode cX4_init 4 = .ok (.aload_n 0, 1) := by decide +kernel
theorem dX4_init_5 : decode cX4_init 5 = .ok (.sipush 400, 3) := by decide +kernel
theorem dX4_init_8 : decode cX4_init 8 = .ok (.newarray .boolean, 2) := by decide +kernel
theorem dX4_init_10 : decode cX4_init 10 = .ok (.putfield 9, 3) := by decide +kernel
theorem dX4_init_13 : decode cX4_init 13 = .ok (.aload_n 0, 1) := by decide +kernel
theorem dX4_init_14 : decode cX4_init 14 = .ok (.sipush 400, 3) := by decide +kernel
theorem dX4_init_17 : decode cX4_init 17 = .ok (.newarray .boolean, 2) := by decide +kernel
theorem dX4_init_19 : decode cX4_init 19 = .ok (.putfield 15, 3) := by decide +kernel
theorem dX4_init_22 : decode cX4_init 22 = .ok (.aload_n 0, 1) := by decide +kernel
theorem dX4_init_23 : decode cX4_init 23 = .ok (.sipush 400, 3) := by decide +kernel
theorem dX4_init_26 : decode cX4_init 26 = .ok (.newarray .boolean, 2) := by decide +kernel
theorem dX4_init_28 : decode cX4_init 28 = .ok (.putfield 18, 3) := by decide +kernel
theorem dX4_init_31 : decode cX4_init 31 = .ok (.aload_n 0, 1) := by decide +kernel
theorem dX4_init_32 : decode cX4_init 32 = .ok (.sipush 400, 3) := by decide +kernel
theorem dX4_init_35 : decode cX4_init 35 = .ok (.newarray .int, 2) := by decide +kernel
theorem dX4_init_37 : decode cX4_init 37 = .ok (.putfield 21, 3) := by decide +kernel
theorem dX4_init_40 : decode cX4_init 40 = .ok (.aload_n 0, 1) := by decide +kernel
theorem dX4_init_41 : decode cX4_init 41 = .ok (.sipush 400, 3) := by decide +kernel
theorem dX4_init_44 : decode cX4_init 44 = .ok (.newarray .int, 2) := by decide +kernel
theorem dX4_init_46 : decode cX4_init 46 = .ok (.putfield 25, 3) := by decide +kernel
theorem dX4_init_49 : decode cX4_init 49 = .ok (.aload_n 0, 1) := by decide +kernel
theorem dX4_init_50 : decode cX4_init 50 = .ok (.sipush 400, 3) := by decide +kernel
theorem dX4_init_53 : decode cX4_init 53 = .ok (.newarray .int, 2) := by decide +kernel
theorem dX4_init_55 : decode cX4_init 55 = .ok (.putfield 28, 3) := by decide +kernel
theorem dX4_init_58 : decode cX4_init 58 = .ok (.aload_n 0, 1) := by decide +kernel
theorem dX4_init_59 : decode cX4_init 59 = .ok (.sipush 400, 3) := by decide +kernel
theorem dX4_init_62 : decode cX4_init 62 = .ok (.newarray .int, 2) := by decide +kernel
theorem dX4_init_64 : decode cX4_init 64 = .ok (.putfield 31, 3) := by decide +kernel
theorem dX4_init_67 : decode cX4_init 67 = .ok (.aload_n 0, 1) := by decide +kernel
theorem dX4_init_68 : decode cX4_init 68 = .ok (.sipush 400, 3) := by decide +kernel
theorem dX4_init_71 : decode cX4_init 71 = .ok (.newarray .int, 2) := by decide +kernel
theorem dX4_init_73 : decode cX4_init 73 = .ok (.putfield 34, 3) := by decide +kernel
theorem dX4_init_76 : decode cX4_init 76 = .ok (.aload_n 0, 1) := by decide +kernel
theorem dX4_init_77 : decode cX4_init 77 = .ok (.iconst (-1), 1) := by decide +kernel
theorem dX4_init_78 : decode cX4_init 78 = .ok (.putfield 37, 3) := by decide +kernel
theorem dX4_init_81 : decode cX4_init 81 = .ok (.return_, 1) := by decide +kernel
theorem dX4_forget_0 : decode cX4_forget 0 = .ok (.aload_n 0, 1) := by decide +kernel
theorem dX4_forget_1 : decode cX4_forget 1 = .ok (.iconst (-1), 1) := by decide +kernel
theorem dX4_forget_2 : decode cX4_forget 2 = .ok (.putfield 37, 3) := by decide +kernel
theorem dX4_forget_5 : decode cX4_forget 5 = .ok (.return_, 1) := by decide +kernel
theorem dX4_isBadState_0 : decode cX4_isBadState 0 = .ok (.aload_n 0, 1) := by decide +kernel
theorem dX4_isBadState_1 : decode cX4_isBadState 1 = .ok (.getfield 18, 3) := by decide +kernel
theorem dX4_isBadState_4 : decode cX4_isBadState 4 = .ok (.iload_n 1, 1) := by decide +kernel
theorem dX4_isBadState_5 : decode cX4_isBadState 5 = .ok (.baload, 1) := by decide +kernel
theorem dX4_isBadState_6 : decode cX4_isBadState 6 = .ok (.ireturn, 1) := by decide +kernel
theorem dX4_lookFor_0 : decode cX4_lookFor 0 = .ok (.iload_n 1, 1) := by decide +kernel
theorem dX4_lookFor_1 : decode cX4_lookFor 1 = .ok (.aload_n 0, 1) := by decide +kernel
theorem dX4_lookFor_2 : decode cX4_lookFor 2 = .ok (.getfield 37, 3) := by decide +kernel
theorem dX4_lookFor_5 : decode cX4_lookFor 5 = .ok (.if_icmp .ne 4, 3) := by decide +kernel
theorem dX4_lookFor_8 : decode cX4_lookFor 8 = .ok (.return_, 1) := by decide +kernel
theorem dX4_lookFor_9 : decode cX4_lookFor 9 = .ok (.aload_n 0, 1) := by decide +kernel
theorem dX4_lookFor_10 : decode cX4_lookFor 10 = .ok (.iload_n 1, 1) := by decide +kernel
theorem dX4_lookFor_11 : decode cX4_lookFor 11 = .ok (.aload_n 2, 1) := by decide +kernel
theorem dX4_lookFor_12 : decode cX4_lookFor 12 = .ok (.aload_n 3, 1) := by decide +kernel
theorem dX4_lookFor_13 : decode cX4_lookFor 13 = .ok (.invokevirtual 41, 3) := by decide +kernel
theorem dX4_lookFor_16 : decode cX4_lookFor 16 = .ok (.iconst 1, 1) := by decide +kernel
theorem dX4_lookFor_17 : decode cX4_lookFor 17 = .ok (.iload 4, 2) := by decide +kernel
theorem dX4_lookFor_19 : decode cX4_lookFor 19 = .ok (.ishl, 1) := by decide +kernel
theorem dX4_lookFor_20 : decode cX4_lookFor 20 = .ok (.iconst 1, 1) := by decide +kernel
theorem dX4_lookFor_21 : decode cX4_lookFor 21 = .ok (.isub, 1) := by decide +kernel
theorem dX4_lookFor_22 : decode cX4_lookFor 22 = .ok (.istore 5, 2) := by decide +kernel
theorem dX4_lookFor_24 : decode cX4_lookFor 24 = .ok (.iconst 0, 1) := by decide +kernel
theorem dX4_lookFor_25 : decode cX4_lookFor 25 = .ok (.istore 6, 2) := by decide +kernel
theorem dX4_lookFor_27 : decode cX4_lookFor 27 = .ok (.iload 6, 2) := by decide +kernel
theorem dX4_lookFor_29 : decode cX4_lookFor 29 = .ok (.aload_n 2, 1) := by decide +kernel
theorem dX4_lookFor_30 : decode cX4_lookFor 30 = .ok (.getfield 45, 3) := by decide +kernel
theorem dX4_lookFor_33 : decode cX4_lookFor 33 = .ok (.if_icmp .ge 38, 3) := by decide +kernel
theorem dX4_lookFor_36 : decode cX4_lookFor 36 = .ok (.aload_n 0, 1) := by decide +kernel
theorem dX4_lookFor_37 : decode cX4_lookFor 37 = .ok (.getfield 9, 3) := by decide +kernel
theorem dX4_lookFor_40 : decode cX4_lookFor 40 = .ok (.iload 6, 2) := by decide +kernel
theorem dX4_lookFor_42 : decode cX4_lookFor 42 = .ok (.baload, 1) := by decide +kernel
theorem dX4_lookFor_43 : decode cX4_lookFor 43 = .ok (.ifCond .eq 22, 3) := by decide +kernel
theorem dX4_lookFor_46 : decode cX4_lookFor 46 = .ok (.aload_n 0, 1) := by decide +kernel
theorem dX4_lookFor_47 : decode cX4_lookFor 47 = .ok (.getfield 21, 3) := by decide +kernel
theorem dX4_lookFor_50 : decode cX4_lookFor 50 = .ok (.iload 6, 2) := by decide +kernel
theorem dX4_lookFor_52 : decode cX4_lookFor 52 = .ok (.iaload, 1) := by decide +kernel
theorem dX4_lookFor_53 : decode cX4_lookFor 53 = .ok (.ifCond .ne 12, 3) := by decide +kernel
theorem dX4_lookFor_56 : decode cX4_lookFor 56 = .ok (.aload_n 0, 1) := by decide +kernel
theorem dX4_lookFor_57 : decode cX4_lookFor 57 = .ok (.iload 6, 2) := by decide +kernel
theorem dX4_lookFor_59 : decode cX4_lookFor 59 = .ok (.aload_n 2, 1) := by decide +kernel
theorem dX4_lookFor_60 : decode cX4_lookFor 60 = .ok (.iload 5, 2) := by decide +kernel
theorem dX4_lookFor_62 : decode cX4_lookFor 62 = .ok (.invokevirtual 50, 3) := by decide +kernel
theorem dX4_lookFor_65 : decode cX4_lookFor 65 = .ok (.iinc 6 1, 3) := by decide +kernel
theorem dX4_lookFor_68 : decode cX4_lookFor 68 = .ok (.goto (-41), 3) := by decide +kernel
theorem dX4_lookFor_71 : decode cX4_lookFor 71 = .ok (.aload_n 0, 1) := by decide +kernel
theorem dX4_lookFor_72 : decode cX4_lookFor 72 = .ok (.iload_n 1, 1) := by decide +kernel
theorem dX4_lookFor_73 : decode cX4_lookFor 73 = .ok (.putfield 37, 3) := by decide +kernel
theorem dX4_lookFor_76 : decode cX4_lookFor 76 = .ok (.return_, 1) := by decide +kernel
theorem dX4_begin_0 : decode cX4_begin 0 = .ok (.iconst 0, 1) := by decide +kernel
theorem dX4_begin_1 : decode cX4_begin 1 = .ok (.istore 4, 2) := by decide +kernel
theorem dX4_begin_3 : decode cX4_begin 3 = .ok (.iload 4, 2) := by decide +kernel
theorem dX4_begin_5 : decode cX4_begin 5 = .ok (.aload_n 2, 1) := by decide +kernel
theorem dX4_begin_6 : decode cX4_begin 6 = .ok (.getfield 45, 3) := by decide +kernel
theorem dX4_begin_9 : decode cX4_begin 9 = .ok (.if_icmp .ge 59, 3) := by decide +kernel
theorem dX4_begin_12 : decode cX4_begin 12 = .ok (.aload_n 0, 1) := by decide +kernel
theorem dX4_begin_13 : decode cX4_begin 13 = .ok (.getfield 9, 3) := by decide +kernel
theorem dX4_begin_16 : decode cX4_begin 16 = .ok (.iload 4, 2) := by decide +kernel
theorem dX4_begin_18 : decode cX4_begin 18 = .ok (.aload_n 3, 1) := by decide +kernel
theorem dX4_begin_19 : decode cX4_begin 19 = .ok (.iload_n 1, 1) := by decide +kernel
theorem dX4_begin_20 : decode cX4_begin 20 = .ok (.aload_n 2, 1) := by decide +kernel
theorem dX4_begin_21 : decode cX4_begin 21 = .ok (.iload 4, 2) := by decide +kernel
theorem dX4_begin_23 : decode cX4_begin 23 = .ok (.invokevirtual 54, 3) := by decide +kernel
theorem dX4_begin_26 : decode cX4_begin 26 = .ok (.invokevirtual 58, 3) := by decide +kernel
theorem dX4_begin_29 : decode cX4_begin 29 = .ok (.ifCond .ne 7, 3) := by decide +kernel
theorem dX4_begin_32 : decode cX4_begin 32 = .ok (.iconst 1, 1) := by decide +kernel
theorem dX4_begin_33 : decode cX4_begin 33 = .ok (.goto 4, 3) := by decide +kernel
theorem dX4_begin_36 : decode cX4_begin 36 = .ok (.iconst 0, 1) := by decide +kernel
theorem dX4_begin_37 : decode cX4_begin 37 = .ok (.bastore, 1) := by decide +kernel
theorem dX4_begin_38 : decode cX4_begin 38 = .ok (.aload_n 0, 1) := by decide +kernel
theorem dX4_begin_39 : decode cX4_begin 39 = .ok (.getfield 15, 3) := by decide +kernel
theorem dX4_begin_42 : decode cX4_begin 42 = .ok (.iload 4, 2) := by decide +kernel
theorem dX4_begin_44 : decode cX4_begin 44 = .ok (.iconst 0, 1) := by decide +kernel
theorem dX4_begin_45 : decode cX4_begin 45 = .ok (.bastore, 1) := by decide +kernel
theorem dX4_begin_46 : decode cX4_begin 46 = .ok (.aload_n 0, 1) := by decide +kernel
theorem dX4_begin_47 : decode cX4_begin 47 = .ok (.getfield 18, 3) := by decide +kernel
theorem dX4_begin_50 : decode cX4_begin 50 = .ok (.iload 4, 2) := by decide +kernel
theorem dX4_begin_52 : decode cX4_begin 52 = .ok (.iconst 0, 1) := by decide +kernel
theorem dX4_begin_53 : decode cX4_begin 53 = .ok (.bastore, 1) := by decide +kernel
theorem dX4_begin_54 : decode cX4_begin 54 = .ok (.aload_n 0, 1) := by decide +kernel
theorem dX4_begin_55 : decode cX4_begin 55 = .ok (.getfield 21, 3) := by decide +kernel
theorem dX4_begin_58 : decode cX4_begin 58 = .ok (.iload 4, 2) := by decide +kernel
theorem dX4_begin_60 : decode cX4_begin 60 = .ok (.iconst 0, 1) := by decide +kernel
theorem dX4_begin_61 : decode cX4_begin 61 = .ok (.iastore, 1) := by decide +kernel
theorem dX4_begin_62 : decode cX4_begin 62 = .ok (.iinc 4 1, 3) := by decide +kernel
theorem dX4_begin_65 : decode cX4_begin 65 = .ok (.goto (-62), 3) := by decide +kernel
theorem dX4_begin_68 : decode cX4_begin 68 = .ok (.aload_n 0, 1) := by decide +kernel
theorem dX4_begin_69 : decode cX4_begin 69 = .ok (.iconst 0, 1) := by decide +kernel
theorem dX4_begin_70 : decode cX4_begin 70 = .ok (.putfield 64, 3) := by decide +kernel
theorem dX4_begin_73 : decode cX4_begin 73 = .ok (.aload_n 0, 1) := by decide +kernel
theorem dX4_begin_74 : decode cX4_begin 74 = .ok (.iconst 0, 1) := by decide +kernel
theorem dX4_begin_75 : decode cX4_begin 75 = .ok (.putfield 67, 3) := by decide +kernel
theorem dX4_begin_78 : decode cX4_begin 78 = .ok (.aload_n 0, 1) := by decide +kernel
theorem dX4_begin_79 : decode cX4_begin 79 = .ok (.iconst 0, 1) := by decide +kernel
theorem dX4_begin_80 : decode cX4_begin 80 = .ok (.putfield 70, 3) := by decide +kernel
theorem dX4_begin_83 : decode cX4_begin 83 = .ok (.aload_n 0, 1) := by decide +kernel
theorem dX4_begin_84 : decode cX4_begin 84 = .ok (.iconst 0, 1) := by decide +kernel
theorem dX4_begin_85 : decode cX4_begin 85 = .ok (.putfield 73, 3) := by decide +kernel
theorem dX4_begin_88 : decode cX4_begin 88 = .ok (.return_, 1) := by decide +kernel
theorem dX4_walkFrom_0 : decode cX4_walkFrom 0 = .ok (.aload_n 0, 1) := by decide +kernel
theorem dX4_walkFrom_1 : decode cX4_walkFrom 1 = .ok (.iload_n 1, 1) := by decide +kernel
theorem dX4_walkFrom_2 : decode cX4_walkFrom 2 = .ok (.invokevirtual 76, 3) := by decide +kernel
theorem dX4_walkFrom_5 : decode cX4_walkFrom 5 = .ok (.aload_n 2, 1) := by decide +kernel
theorem dX4_walkFrom_6 : decode cX4_walkFrom 6 = .ok (.getfield 80, 3) := by decide +kernel
theorem dX4_walkFrom_9 : decode cX4_walkFrom 9 = .ok (.aload_n 2, 1) := by decide +kernel
theorem dX4_walkFrom_10 : decode cX4_walkFrom 10 = .ok (.getfield 45, 3) := by decide +kernel
theorem dX4_walkFrom_13 : decode cX4_walkFrom 13 = .ok (.iadd, 1) := by decide +kernel
theorem dX4_walkFrom_14 : decode cX4_walkFrom 14 = .ok (.istore 4, 2) := by decide +kernel
theorem dX4_walkFrom_16 : decode cX4_walkFrom 16 = .ok (.iconst 0, 1) := by decide +kernel
theorem dX4_walkFrom_17 : decode cX4_walkFrom 17 = .ok (.istore 5, 2) := by decide +kernel
theorem dX4_walkFrom_19 : decode cX4_walkFrom 19 = .ok (.iload 5, 2) := by decide +kernel
theorem dX4_walkFrom_21 : decode cX4_walkFrom 21 = .ok (.iload 4, 2) := by decide +kernel
theorem dX4_walkFrom_23 : decode cX4_walkFrom 23 = .ok (.if_icmp .ge 117, 3) := by decide +kernel
theorem dX4_walkFrom_26 : decode cX4_walkFrom 26 = .ok (.aload_n 0, 1) := by decide +kernel
theorem dX4_walkFrom_27 : decode cX4_walkFrom 27 = .ok (.getfield 64, 3) := by decide +kernel
theorem dX4_walkFrom_30 : decode cX4_walkFrom 30 = .ok (.ifCond .le 110, 3) := by decide +kernel
theorem dX4_walkFrom_33 : decode cX4_walkFrom 33 = .ok (.aload_n 0, 1) := by decide +kernel
theorem dX4_walkFrom_34 : decode cX4_walkFrom 34 = .ok (.getfield 31, 3) := by decide +kernel
theorem dX4_walkFrom_37 : decode cX4_walkFrom 37 = .ok (.aload_n 0, 1) := by decide +kernel
theorem dX4_walkFrom_38 : decode cX4_walkFrom 38 = .ok (.getfield 64, 3) := by decide +kernel
theorem dX4_walkFrom_41 : decode cX4_walkFrom 41 = .ok (.iconst 1, 1) := by decide +kernel
theorem dX4_walkFrom_42 : decode cX4_walkFrom 42 = .ok (.isub, 1) := by decide +kernel
theorem dX4_walkFrom_43 : decode cX4_walkFrom 43 = .ok (.iaload, 1) := by decide +kernel
theorem dX4_walkFrom_44 : decode cX4_walkFrom 44 = .ok (.istore 6, 2) := by decide +kernel
theorem dX4_walkFrom_46 : decode cX4_walkFrom 46 = .ok (.aload_n 0, 1) := by decide +kernel
theorem dX4_walkFrom_47 : decode cX4_walkFrom 47 = .ok (.getfield 28, 3) := by decide +kernel
theorem dX4_walkFrom_50 : decode cX4_walkFrom 50 = .ok (.iload 6, 2) := by decide +kernel
theorem dX4_walkFrom_52 : decode cX4_walkFrom 52 = .ok (.iaload, 1) := by decide +kernel
theorem dX4_walkFrom_53 : decode cX4_walkFrom 53 = .ok (.aload_n 2, 1) := by decide +kernel
theorem dX4_walkFrom_54 : decode cX4_walkFrom 54 = .ok (.iload 6, 2) := by decide +kernel
theorem dX4_walkFrom_56 : decode cX4_walkFrom 56 = .ok (.invokevirtual 83, 3) := by decide +kernel
theorem dX4_walkFrom_59 : decode cX4_walkFrom 59 = .ok (.if_icmp .ge 44, 3) := by decide +kernel
theorem dX4_walkFrom_62 : decode cX4_walkFrom 62 = .ok (.aload_n 2, 1) := by decide +kernel
theorem dX4_walkFrom_63 : decode cX4_walkFrom 63 = .ok (.iload 6, 2) := by decide +kernel
theorem dX4_walkFrom_65 : decode cX4_walkFrom 65 = .ok (.aload_n 0, 1) := by decide +kernel
theorem dX4_walkFrom_66 : decode cX4_walkFrom 66 = .ok (.getfield 28, 3) := by decide +kernel
theorem dX4_walkFrom_69 : decode cX4_walkFrom 69 = .ok (.iload 6, 2) := by decide +kernel
theorem dX4_walkFrom_71 : decode cX4_walkFrom 71 = .ok (.iaload, 1) := by decide +kernel
theorem dX4_walkFrom_72 : decode cX4_walkFrom 72 = .ok (.invokevirtual 86, 3) := by decide +kernel
theorem dX4_walkFrom_75 : decode cX4_walkFrom 75 = .ok (.istore 7, 2) := by decide +kernel
theorem dX4_walkFrom_77 : decode cX4_walkFrom 77 = .ok (.aload_n 0, 1) := by decide +kernel
theorem dX4_walkFrom_78 : decode cX4_walkFrom 78 = .ok (.getfield 28, 3) := by decide +kernel
theorem dX4_walkFrom_81 : decode cX4_walkFrom 81 = .ok (.iload 6, 2) := by decide +kernel
theorem dX4_walkFrom_83 : decode cX4_walkFrom 83 = .ok (.dup2, 1) := by decide +kernel
theorem dX4_walkFrom_84 : decode cX4_walkFrom 84 = .ok (.iaload, 1) := by decide +kernel
theorem dX4_walkFrom_85 : decode cX4_walkFrom 85 = .ok (.iconst 1, 1) := by decide +kernel
theorem dX4_walkFrom_86 : decode cX4_walkFrom 86 = .ok (.iadd, 1) := by decide +kernel
theorem dX4_walkFrom_87 : decode cX4_walkFrom 87 = .ok (.iastore, 1) := by decide +kernel
theorem dX4_walkFrom_88 : decode cX4_walkFrom 88 = .ok (.aload_n 0, 1) := by decide +kernel
theorem dX4_walkFrom_89 : decode cX4_walkFrom 89 = .ok (.iload 6, 2) := by decide +kernel
theorem dX4_walkFrom_91 : decode cX4_walkFrom 91 = .ok (.iload 7, 2) := by decide +kernel
theorem dX4_walkFrom_93 : decode cX4_walkFrom 93 = .ok (.iconst 0, 1) := by decide +kernel
theorem dX4_walkFrom_94 : decode cX4_walkFrom 94 = .ok (.invokestatic 90, 3) := by decide +kernel
theorem dX4_walkFrom_97 : decode cX4_walkFrom 97 = .ok (.invokevirtual 93, 3) := by decide +kernel
theorem dX4_walkFrom_100 : decode cX4_walkFrom 100 = .ok (.goto 34, 3) := by decide +kernel
theorem dX4_walkFrom_103 : decode cX4_walkFrom 103 = .ok (.aload_n 0, 1) := by decide +kernel
theorem dX4_walkFrom_104 : decode cX4_walkFrom 104 = .ok (.iload 6, 2) := by decide +kernel
theorem dX4_walkFrom_106 : decode cX4_walkFrom 106 = .ok (.invokevirtual 97, 3) := by decide +kernel
theorem dX4_walkFrom_109 : decode cX4_walkFrom 109 = .ok (.aload_n 0, 1) := by decide +kernel
theorem dX4_walkFrom_110 : decode cX4_walkFrom 110 = .ok (.getfield 25, 3) := by decide +kernel
theorem dX4_walkFrom_113 : decode cX4_walkFrom 113 = .ok (.iload 6, 2) := by decide +kernel
theorem dX4_walkFrom_115 : decode cX4_walkFrom 115 = .ok (.iaload, 1) := by decide +kernel
theorem dX4_walkFrom_116 : decode cX4_walkFrom 116 = .ok (.aload_n 0, 1) := by decide +kernel
theorem dX4_walkFrom_117 : decode cX4_walkFrom 117 = .ok (.getfield 21, 3) := by decide +kernel
theorem dX4_walkFrom_120 : decode cX4_walkFrom 120 = .ok (.iload 6, 2) := by decide +kernel
theorem dX4_walkFrom_122 : decode cX4_walkFrom 122 = .ok (.iaload, 1) := by decide +kernel
theorem dX4_walkFrom_123 : decode cX4_walkFrom 123 = .ok (.if_icmp .ne 11, 3) := by decide +kernel
theorem dX4_walkFrom_126 : decode cX4_walkFrom 126 = .ok (.aload_n 0, 1) := by decide +kernel
theorem dX4_walkFrom_127 : decode cX4_walkFrom 127 = .ok (.iload 6, 2) := by decide +kernel
theorem dX4_walkFrom_129 : decode cX4_walkFrom 129 = .ok (.aload_n 2, 1) := by decide +kernel
theorem dX4_walkFrom_130 : decode cX4_walkFrom 130 = .ok (.iload_n 3, 1) := by decide +kernel
theorem dX4_walkFrom_131 : decode cX4_walkFrom 131 = .ok (.invokevirtual 100, 3) := by decide +kernel
theorem dX4_walkFrom_134 : decode cX4_walkFrom 134 = .ok (.iinc 5 1, 3) := by decide +kernel
theorem dX4_walkFrom_137 : decode cX4_walkFrom 137 = .ok (.goto (-118), 3) := by decide +kernel
theorem dX4_walkFrom_140 : decode cX4_walkFrom 140 = .ok (.return_, 1) := by decide +kernel
theorem dX4_enter_0 : decode cX4_enter 0 = .ok (.aload_n 0, 1) := by decide +kernel
theorem dX4_enter_1 : decode cX4_enter 1 = .ok (.dup, 1) := by decide +kernel
theorem dX4_enter_2 : decode cX4_enter 2 = .ok (.getfield 70, 3) := by decide +kernel
theorem dX4_enter_5 : decode cX4_enter 5 = .ok (.iconst 1, 1) := by decide +kernel
theorem dX4_enter_6 : decode cX4_enter 6 = .ok (.iadd, 1) := by decide +kernel
theorem dX4_enter_7 : decode cX4_enter 7 = .ok (.putfield 70, 3) := by decide +kernel
theorem dX4_enter_10 : decode cX4_enter 10 = .ok (.aload_n 0, 1) := by decide +kernel
theorem dX4_enter_11 : decode cX4_enter 11 = .ok (.getfield 21, 3) := by decide +kernel
theorem dX4_enter_14 : decode cX4_enter 14 = .ok (.iload_n 1, 1) := by decide +kernel
theorem dX4_enter_15 : decode cX4_enter 15 = .ok (.aload_n 0, 1) := by decide +kernel
theorem dX4_enter_16 : decode cX4_enter 16 = .ok (.getfield 70, 3) := by decide +kernel
theorem dX4_enter_19 : decode cX4_enter 19 = .ok (.iastore, 1) := by decide +kernel
theorem dX4_enter_20 : decode cX4_enter 20 = .ok (.aload_n 0, 1) := by decide +kernel
theorem dX4_enter_21 : decode cX4_enter 21 = .ok (.getfield 25, 3) := by decide +kernel
theorem dX4_enter_24 : decode cX4_enter 24 = .ok (.iload_n 1, 1) := by decide +kernel
theorem dX4_enter_25 : decode cX4_enter 25 = .ok (.aload_n 0, 1) := by decide +kernel
theorem dX4_enter_26 : decode cX4_enter 26 = .ok (.getfield 70, 3) := by decide +kernel
theorem dX4_enter_29 : decode cX4_enter 29 = .ok (.iastore, 1) := by decide +kernel
theorem dX4_enter_30 : decode cX4_enter 30 = .ok (.aload_n 0, 1) := by decide +kernel
theorem dX4_enter_31 : decode cX4_enter 31 = .ok (.getfield 28, 3) := by decide +kernel
theorem dX4_enter_34 : decode cX4_enter 34 = .ok (.iload_n 1, 1) := by decide +kernel
theorem dX4_enter_35 : decode cX4_enter 35 = .ok (.iconst 0, 1) := by decide +kernel
theorem dX4_enter_36 : decode cX4_enter 36 = .ok (.iastore, 1) := by decide +kernel
theorem dX4_enter_37 : decode cX4_enter 37 = .ok (.aload_n 0, 1) := by decide +kernel
theorem dX4_enter_38 : decode cX4_enter 38 = .ok (.getfield 31, 3) := by decide +kernel
theorem dX4_enter_41 : decode cX4_enter 41 = .ok (.aload_n 0, 1) := by decide +kernel
theorem dX4_enter_42 : decode cX4_enter 42 = .ok (.getfield 64, 3) := by decide +kernel
theorem dX4_enter_45 : decode cX4_enter 45 = .ok (.iload_n 1, 1) := by decide +kernel
theorem dX4_enter_46 : decode cX4_enter 46 = .ok (.iastore, 1) := by decide +kernel
theorem dX4_enter_47 : decode cX4_enter 47 = .ok (.aload_n 0, 1) := by decide +kernel
theorem dX4_enter_48 : decode cX4_enter 48 = .ok (.dup, 1) := by decide +kernel
theorem dX4_enter_49 : decode cX4_enter 49 = .ok (.getfield 64, 3) := by decide +kernel
theorem dX4_enter_52 : decode cX4_enter 52 = .ok (.iconst 1, 1) := by decide +kernel
theorem dX4_enter_53 : decode cX4_enter 53 = .ok (.iadd, 1) := by decide +kernel
theorem dX4_enter_54 : decode cX4_enter 54 = .ok (.putfield 64, 3) := by decide +kernel
theorem dX4_enter_57 : decode cX4_enter 57 = .ok (.aload_n 0, 1) := by decide +kernel
theorem dX4_enter_58 : decode cX4_enter 58 = .ok (.getfield 34, 3) := by decide +kernel
theorem dX4_enter_61 : decode cX4_enter 61 = .ok (.aload_n 0, 1) := by decide +kernel
theorem dX4_enter_62 : decode cX4_enter 62 = .ok (.getfield 67, 3) := by decide +kernel
theorem dX4_enter_65 : decode cX4_enter 65 = .ok (.iload_n 1, 1) := by decide +kernel
theorem dX4_enter_66 : decode cX4_enter 66 = .ok (.iastore, 1) := by decide +kernel
theorem dX4_enter_67 : decode cX4_enter 67 = .ok (.aload_n 0, 1) := by decide +kernel
theorem dX4_enter_68 : decode cX4_enter 68 = .ok (.dup, 1) := by decide +kernel
theorem dX4_enter_69 : decode cX4_enter 69 = .ok (.getfield 67, 3) := by decide +kernel
theorem dX4_enter_72 : decode cX4_enter 72 = .ok (.iconst 1, 1) := by decide +kernel
theorem dX4_enter_73 : decode cX4_enter 73 = .ok (.iadd, 1) := by decide +kernel
theorem dX4_enter_74 : decode cX4_enter 74 = .ok (.putfield 67, 3) := by decide +kernel
theorem dX4_enter_77 : decode cX4_enter 77 = .ok (.aload_n 0, 1) := by decide +kernel
theorem dX4_enter_78 : decode cX4_enter 78 = .ok (.getfield 15, 3) := by decide +kernel
theorem dX4_enter_81 : decode cX4_enter 81 = .ok (.iload_n 1, 1) := by decide +kernel
theorem dX4_enter_82 : decode cX4_enter 82 = .ok (.iconst 1, 1) := by decide +kernel
theorem dX4_enter_83 : decode cX4_enter 83 = .ok (.bastore, 1) := by decide +kernel
theorem dX4_enter_84 : decode cX4_enter 84 = .ok (.return_, 1) := by decide +kernel
theorem dX4_follow_0 : decode cX4_follow 0 = .ok (.aload_n 0, 1) := by decide +kernel
theorem dX4_follow_1 : decode cX4_follow 1 = .ok (.getfield 9, 3) := by decide +kernel
theorem dX4_follow_4 : decode cX4_follow 4 = .ok (.iload_n 2, 1) := by decide +kernel
theorem dX4_follow_5 : decode cX4_follow 5 = .ok (.baload, 1) := by decide +kernel
theorem dX4_follow_6 : decode cX4_follow 6 = .ok (.ifCond .ne 4, 3) := by decide +kernel
theorem dX4_follow_9 : decode cX4_follow 9 = .ok (.return_, 1) := by decide +kernel
theorem dX4_follow_10 : decode cX4_follow 10 = .ok (.aload_n 0, 1) := by decide +kernel
theorem dX4_follow_11 : decode cX4_follow 11 = .ok (.getfield 21, 3) := by decide +kernel
theorem dX4_follow_14 : decode cX4_follow 14 = .ok (.iload_n 2, 1) := by decide +kernel
theorem dX4_follow_15 : decode cX4_follow 15 = .ok (.iaload, 1) := by decide +kernel
theorem dX4_follow_16 : decode cX4_follow 16 = .ok (.ifCond .ne 11, 3) := by decide +kernel
theorem dX4_follow_19 : decode cX4_follow 19 = .ok (.aload_n 0, 1) := by decide +kernel
theorem dX4_follow_20 : decode cX4_follow 20 = .ok (.iload_n 2, 1) := by decide +kernel
theorem dX4_follow_21 : decode cX4_follow 21 = .ok (.invokevirtual 76, 3) := by decide +kernel
theorem dX4_follow_24 : decode cX4_follow 24 = .ok (.goto 33, 3) := by decide +kernel
theorem dX4_follow_27 : decode cX4_follow 27 = .ok (.aload_n 0, 1) := by decide +kernel
theorem dX4_follow_28 : decode cX4_follow 28 = .ok (.getfield 15, 3) := by decide +kernel
theorem dX4_follow_31 : decode cX4_follow 31 = .ok (.iload_n 2, 1) := by decide +kernel
theorem dX4_follow_32 : decode cX4_follow 32 = .ok (.baload, 1) := by decide +kernel
theorem dX4_follow_33 : decode cX4_follow 33 = .ok (.ifCond .eq 24, 3) := by decide +kernel
theorem dX4_follow_36 : decode cX4_follow 36 = .ok (.aload_n 0, 1) := by decide +kernel
theorem dX4_follow_37 : decode cX4_follow 37 = .ok (.getfield 25, 3) := by decide +kernel
theorem dX4_follow_40 : decode cX4_follow 40 = .ok (.iload_n 1, 1) := by decide +kernel
theorem dX4_follow_41 : decode cX4_follow 41 = .ok (.aload_n 0, 1) := by decide +kernel
theorem dX4_follow_42 : decode cX4_follow 42 = .ok (.getfield 25, 3) := by decide +kernel
theorem dX4_follow_45 : decode cX4_follow 45 = .ok (.iload_n 1, 1) := by decide +kernel
theorem dX4_follow_46 : decode cX4_follow 46 = .ok (.iaload, 1) := by decide +kernel
theorem dX4_follow_47 : decode cX4_follow 47 = .ok (.aload_n 0, 1) := by decide +kernel
theorem dX4_follow_48 : decode cX4_follow 48 = .ok (.getfield 21, 3) := by decide +kernel
theorem dX4_follow_51 : decode cX4_follow 51 = .ok (.iload_n 2, 1) := by decide +kernel
theorem dX4_follow_52 : decode cX4_follow 52 = .ok (.iaload, 1) := by decide +kernel
theorem dX4_follow_53 : decode cX4_follow 53 = .ok (.invokestatic 103, 3) := by decide +kernel
theorem dX4_follow_56 : decode cX4_follow 56 = .ok (.iastore, 1) := by decide +kernel
theorem dX4_follow_57 : decode cX4_follow 57 = .ok (.return_, 1) := by decide +kernel
theorem dX4_leave_0 : decode cX4_leave 0 = .ok (.aload_n 0, 1) := by decide +kernel
theorem dX4_leave_1 : decode cX4_leave 1 = .ok (.dup, 1) := by decide +kernel
theorem dX4_leave_2 : decode cX4_leave 2 = .ok (.getfield 64, 3) := by decide +kernel
theorem dX4_leave_5 : decode cX4_leave 5 = .ok (.iconst 1, 1) := by decide +kernel
theorem dX4_leave_6 : decode cX4_leave 6 = .ok (.isub, 1) := by decide +kernel
theorem dX4_leave_7 : decode cX4_leave 7 = .ok (.putfield 64, 3) := by decide +kernel
theorem dX4_leave_10 : decode cX4_leave 10 = .ok (.aload_n 0, 1) := by decide +kernel
theorem dX4_leave_11 : decode cX4_leave 11 = .ok (.getfield 64, 3) := by decide +kernel
theorem dX4_leave_14 : decode cX4_leave 14 = .ok (.ifCond .le 36, 3) := by decide +kernel
theorem dX4_leave_17 : decode cX4_leave 17 = .ok (.aload_n 0, 1) := by decide +kernel
theorem dX4_leave_18 : decode cX4_leave 18 = .ok (.getfield 31, 3) := by decide +kernel
theorem dX4_leave_21 : decode cX4_leave 21 = .ok (.aload_n 0, 1) := by decide +kernel
theorem dX4_leave_22 : decode cX4_leave 22 = .ok (.getfield 64, 3) := by decide +kernel
theorem dX4_leave_25 : decode cX4_leave 25 = .ok (.iconst 1, 1) := by decide +kernel
theorem dX4_leave_26 : decode cX4_leave 26 = .ok (.isub, 1) := by decide +kernel
theorem dX4_leave_27 : decode cX4_leave 27 = .ok (.iaload, 1) := by decide +kernel
theorem dX4_leave_28 : decode cX4_leave 28 = .ok (.istore_n 2, 1) := by decide +kernel
theorem dX4_leave_29 : decode cX4_leave 29 = .ok (.aload_n 0, 1) := by decide +kernel
theorem dX4_leave_30 : decode cX4_leave 30 = .ok (.getfield 25, 3) := by decide +kernel
theorem dX4_leave_33 : decode cX4_leave 33 = .ok (.iload_n 2, 1) := by decide +kernel
theorem dX4_leave_34 : decode cX4_leave 34 = .ok (.aload_n 0, 1) := by decide +kernel
theorem dX4_leave_35 : decode cX4_leave 35 = .ok (.getfield 25, 3) := by decide +kernel
theorem dX4_leave_38 : decode cX4_leave 38 = .ok (.iload_n 2, 1) := by decide +kernel
theorem dX4_leave_39 : decode cX4_leave 39 = .ok (.iaload, 1) := by decide +kernel
theorem dX4_leave_40 : decode cX4_leave 40 = .ok (.aload_n 0, 1) := by decide +kernel
theorem dX4_leave_41 : decode cX4_leave 41 = .ok (.getfield 25, 3) := by decide +kernel
theorem dX4_leave_44 : decode cX4_leave 44 = .ok (.iload_n 1, 1) := by decide +kernel
theorem dX4_leave_45 : decode cX4_leave 45 = .ok (.iaload, 1) := by decide +kernel
theorem dX4_leave_46 : decode cX4_leave 46 = .ok (.invokestatic 103, 3) := by decide +kernel
theorem dX4_leave_49 : decode cX4_leave 49 = .ok (.iastore, 1) := by decide +kernel
theorem dX4_leave_50 : decode cX4_leave 50 = .ok (.return_, 1) := by decide +kernel
theorem dX4_close_0 : decode cX4_close 0 = .ok (.aload_n 0, 1) := by decide +kernel
theorem dX4_close_1 : decode cX4_close 1 = .ok (.iconst 0, 1) := by decide +kernel
theorem dX4_close_2 : decode cX4_close 2 = .ok (.putfield 108, 3) := by decide +kernel
theorem dX4_close_5 : decode cX4_close 5 = .ok (.aload_n 0, 1) := by decide +kernel
theorem dX4_close_6 : decode cX4_close 6 = .ok (.iconst 0, 1) := by decide +kernel
theorem dX4_close_7 : decode cX4_close 7 = .ok (.putfield 111, 3) := by decide +kernel
theorem dX4_close_10 : decode cX4_close 10 = .ok (.aload_n 0, 1) := by decide +kernel
theorem dX4_close_11 : decode cX4_close 11 = .ok (.getfield 67, 3) := by decide +kernel
theorem dX4_close_14 : decode cX4_close 14 = .ok (.istore 4, 2) := by decide +kernel
theorem dX4_close_16 : decode cX4_close 16 = .ok (.iconst 0, 1) := by decide +kernel
theorem dX4_close_17 : decode cX4_close 17 = .ok (.istore 5, 2) := by decide +kernel
theorem dX4_close_19 : decode cX4_close 19 = .ok (.iload 4, 2) := by decide +kernel
theorem dX4_close_21 : decode cX4_close 21 = .ok (.ifCond .le 44, 3) := by decide +kernel
theorem dX4_close_24 : decode cX4_close 24 = .ok (.iload 5, 2) := by decide +kernel
theorem dX4_close_26 : decode cX4_close 26 = .ok (.ifCond .ne 39, 3) := by decide +kernel
theorem dX4_close_29 : decode cX4_close 29 = .ok (.iinc 4 (-1), 3) := by decide +kernel
theorem dX4_close_32 : decode cX4_close 32 = .ok (.aload_n 0, 1) := by decide +kernel
theorem dX4_close_33 : decode cX4_close 33 = .ok (.aload_n 0, 1) := by decide +kernel
theorem dX4_close_34 : decode cX4_close 34 = .ok (.getfield 34, 3) := by decide +kernel
theorem dX4_close_37 : decode cX4_close 37 = .ok (.iload 4, 2) := by decide +kernel
theorem dX4_close_39 : decode cX4_close 39 = .ok (.iaload, 1) := by decide +kernel
theorem dX4_close_40 : decode cX4_close 40 = .ok (.aload_n 2, 1) := by decide +kernel
theorem dX4_close_41 : decode cX4_close 41 = .ok (.invokevirtual 115, 3) := by decide +kernel
theorem dX4_close_44 : decode cX4_close 44 = .ok (.aload_n 0, 1) := by decide +kernel
theorem dX4_close_45 : decode cX4_close 45 = .ok (.getfield 34, 3) := by decide +kernel
theorem dX4_close_48 : decode cX4_close 48 = .ok (.iload 4, 2) := by decide +kernel
theorem dX4_close_50 : decode cX4_close 50 = .ok (.iaload, 1) := by decide +kernel
theorem dX4_close_51 : decode cX4_close 51 = .ok (.iload_n 1, 1) := by decide +kernel
theorem dX4_close_52 : decode cX4_close 52 = .ok (.if_icmp .ne 7, 3) := by decide +kernel
theorem dX4_close_55 : decode cX4_close 55 = .ok (.iconst 1, 1) := by decide +kernel
theorem dX4_close_56 : decode cX4_close 56 = .ok (.goto 4, 3) := by decide +kernel
theorem dX4_close_59 : decode cX4_close 59 = .ok (.iconst 0, 1) := by decide +kernel
theorem dX4_close_60 : decode cX4_close 60 = .ok (.istore 5, 2) := by decide +kernel
theorem dX4_close_62 : decode cX4_close 62 = .ok (.goto (-43), 3) := by decide +kernel
theorem dX4_close_65 : decode cX4_close 65 = .ok (.aload_n 0, 1) := by decide +kernel
theorem dX4_close_66 : decode cX4_close 66 = .ok (.getfield 108, 3) := by decide +kernel
theorem dX4_close_69 : decode cX4_close 69 = .ok (.iload_n 3, 1) := by decide +kernel
theorem dX4_close_70 : decode cX4_close 70 = .ok (.iand, 1) := by decide +kernel
theorem dX4_close_71 : decode cX4_close 71 = .ok (.iload_n 3, 1) := by decide +kernel
theorem dX4_close_72 : decode cX4_close 72 = .ok (.if_icmp .ne 7, 3) := by decide +kernel
theorem dX4_close_75 : decode cX4_close 75 = .ok (.iconst 1, 1) := by decide +kernel
theorem dX4_close_76 : decode cX4_close 76 = .ok (.goto 4, 3) := by decide +kernel
theorem dX4_close_79 : decode cX4_close 79 = .ok (.iconst 0, 1) := by decide +kernel
theorem dX4_close_80 : decode cX4_close 80 = .ok (.istore 6, 2) := by decide +kernel
theorem dX4_close_82 : decode cX4_close 82 = .ok (.iload 6, 2) := by decide +kernel
theorem dX4_close_84 : decode cX4_close 84 = .ok (.ifCond .eq 19, 3) := by decide +kernel
theorem dX4_close_87 : decode cX4_close 87 = .ok (.aload_n 0, 1) := by decide +kernel
theorem dX4_close_88 : decode cX4_close 88 = .ok (.dup, 1) := by decide +kernel
theorem dX4_close_89 : decode cX4_close 89 = .ok (.getfield 73, 3) := by decide +kernel
theorem dX4_close_92 : decode cX4_close 92 = .ok (.aload_n 0, 1) := by decide +kernel
theorem dX4_close_93 : decode cX4_close 93 = .ok (.getfield 67, 3) := by decide +kernel
theorem dX4_close_96 : decode cX4_close 96 = .ok (.iload 4, 2) := by decide +kernel
theorem dX4_close_98 : decode cX4_close 98 = .ok (.isub, 1) := by decide +kernel
theorem dX4_close_99 : decode cX4_close 99 = .ok (.iadd, 1) := by decide +kernel
theorem dX4_close_100 : decode cX4_close 100 = .ok (.putfield 73, 3) := by decide +kernel
theorem dX4_close_103 : decode cX4_close 103 = .ok (.iload 4, 2) := by decide +kernel
theorem dX4_close_105 : decode cX4_close 105 = .ok (.istore 7, 2) := by decide +kernel
theorem dX4_close_107 : decode cX4_close 107 = .ok (.iload 7, 2) := by decide +kernel
theorem dX4_close_109 : decode cX4_close 109 = .ok (.aload_n 0, 1) := by decide +kernel
theorem dX4_close_110 : decode cX4_close 110 = .ok (.getfield 67, 3) := by decide +kernel
theorem dX4_close_113 : decode cX4_close 113 = .ok (.if_icmp .ge 51, 3) := by decide +kernel
theorem dX4_close_116 : decode cX4_close 116 = .ok (.aload_n 0, 1) := by decide +kernel
theorem dX4_close_117 : decode cX4_close 117 = .ok (.getfield 15, 3) := by decide +kernel
theorem dX4_close_120 : decode cX4_close 120 = .ok (.aload_n 0, 1) := by decide +kernel
theorem dX4_close_121 : decode cX4_close 121 = .ok (.getfield 34, 3) := by decide +kernel
theorem dX4_close_124 : decode cX4_close 124 = .ok (.iload 7, 2) := by decide +kernel
theorem dX4_close_126 : decode cX4_close 126 = .ok (.iaload, 1) := by decide +kernel
theorem dX4_close_127 : decode cX4_close 127 = .ok (.iconst 0, 1) := by decide +kernel
theorem dX4_close_128 : decode cX4_close 128 = .ok (.bastore, 1) := by decide +kernel
theorem dX4_close_129 : decode cX4_close 129 = .ok (.aload_n 0, 1) := by decide +kernel
theorem dX4_close_130 : decode cX4_close 130 = .ok (.getfield 18, 3) := by decide +kernel
theorem dX4_close_133 : decode cX4_close 133 = .ok (.aload_n 0, 1) := by decide +kernel
theorem dX4_close_134 : decode cX4_close 134 = .ok (.getfield 34, 3) := by decide +kernel
theorem dX4_close_137 : decode cX4_close 137 = .ok (.iload 7, 2) := by decide +kernel
theorem dX4_close_139 : decode cX4_close 139 = .ok (.iaload, 1) := by decide +kernel
theorem dX4_close_140 : decode cX4_close 140 = .ok (.iload 6, 2) := by decide +kernel
theorem dX4_close_142 : decode cX4_close 142 = .ok (.ifCond .ne 10, 3) := by decide +kernel
theorem dX4_close_145 : decode cX4_close 145 = .ok (.aload_n 0, 1) := by decide +kernel
theorem dX4_close_146 : decode cX4_close 146 = .ok (.getfield 111, 3) := by decide +kernel
theorem dX4_close_149 : decode cX4_close 149 = .ok (.ifCond .eq 7, 3) := by decide +kernel
theorem dX4_close_152 : decode cX4_close 152 = .ok (.iconst 1, 1) := by decide +kernel
theorem dX4_close_153 : decode cX4_close 153 = .ok (.goto 4, 3) := by decide +kernel
theorem dX4_close_156 : decode cX4_close 156 = .ok (.iconst 0, 1) := by decide +kernel
theorem dX4_close_157 : decode cX4_close 157 = .ok (.bastore, 1) := by decide +kernel
theorem dX4_close_158 : decode cX4_close 158 = .ok (.iinc 7 1, 3) := by decide +kernel
theorem dX4_close_161 : decode cX4_close 161 = .ok (.goto (-54), 3) := by decide +kernel
theorem dX4_close_164 : decode cX4_close 164 = .ok (.aload_n 0, 1) := by decide +kernel
theorem dX4_close_165 : decode cX4_close 165 = .ok (.iload 4, 2) := by decide +kernel
theorem dX4_close_167 : decode cX4_close 167 = .ok (.putfield 67, 3) := by decide +kernel
theorem dX4_close_170 : decode cX4_close 170 = .ok (.return_, 1) := by decide +kernel
theorem dX4_lookAt_0 : decode cX4_lookAt 0 = .ok (.aload_n 0, 1) := by decide +kernel
theorem dX4_lookAt_1 : decode cX4_lookAt 1 = .ok (.dup, 1) := by decide +kernel
theorem dX4_lookAt_2 : decode cX4_lookAt 2 = .ok (.getfield 108, 3) := by decide +kernel
theorem dX4_lookAt_5 : decode cX4_lookAt 5 = .ok (.aload_n 2, 1) := by decide +kernel
theorem dX4_lookAt_6 : decode cX4_lookAt 6 = .ok (.iload_n 1, 1) := by decide +kernel
theorem dX4_lookAt_7 : decode cX4_lookAt 7 = .ok (.invokevirtual 119, 3) := by decide +kernel
theorem dX4_lookAt_10 : decode cX4_lookAt 10 = .ok (.iconst (-1), 1) := by decide +kernel
theorem dX4_lookAt_11 : decode cX4_lookAt 11 = .ok (.ixor, 1) := by decide +kernel
theorem dX4_lookAt_12 : decode cX4_lookAt 12 = .ok (.ior, 1) := by decide +kernel
theorem dX4_lookAt_13 : decode cX4_lookAt 13 = .ok (.putfield 108, 3) := by decide +kernel
theorem dX4_lookAt_16 : decode cX4_lookAt 16 = .ok (.aload_n 2, 1) := by decide +kernel
theorem dX4_lookAt_17 : decode cX4_lookAt 17 = .ok (.iload_n 1, 1) := by decide +kernel
theorem dX4_lookAt_18 : decode cX4_lookAt 18 = .ok (.invokevirtual 83, 3) := by decide +kernel
theorem dX4_lookAt_21 : decode cX4_lookAt 21 = .ok (.istore_n 3, 1) := by decide +kernel
theorem dX4_lookAt_22 : decode cX4_lookAt 22 = .ok (.iconst 0, 1) := by decide +kernel
theorem dX4_lookAt_23 : decode cX4_lookAt 23 = .ok (.istore 4, 2) := by decide +kernel
theorem dX4_lookAt_25 : decode cX4_lookAt 25 = .ok (.iload 4, 2) := by decide +kernel
theorem dX4_lookAt_27 : decode cX4_lookAt 27 = .ok (.iload_n 3, 1) := by decide +kernel
theorem dX4_lookAt_28 : decode cX4_lookAt 28 = .ok (.if_icmp .ge 88, 3) := by decide +kernel
theorem dX4_lookAt_31 : decode cX4_lookAt 31 = .ok (.aload_n 2, 1) := by decide +kernel
theorem dX4_lookAt_32 : decode cX4_lookAt 32 = .ok (.iload_n 1, 1) := by decide +kernel
theorem dX4_lookAt_33 : decode cX4_lookAt 33 = .ok (.iload 4, 2) := by decide +kernel
theorem dX4_lookAt_35 : decode cX4_lookAt 35 = .ok (.invokevirtual 86, 3) := by decide +kernel
theorem dX4_lookAt_38 : decode cX4_lookAt 38 = .ok (.istore 5, 2) := by decide +kernel
theorem dX4_lookAt_40 : decode cX4_lookAt 40 = .ok (.iload 5, 2) := by decide +kernel
theorem dX4_lookAt_42 : decode cX4_lookAt 42 = .ok (.iconst 0, 1) := by decide +kernel
theorem dX4_lookAt_43 : decode cX4_lookAt 43 = .ok (.invokestatic 90, 3) := by decide +kernel
theorem dX4_lookAt_46 : decode cX4_lookAt 46 = .ok (.istore 6, 2) := by decide +kernel
theorem dX4_lookAt_48 : decode cX4_lookAt 48 = .ok (.aload_n 0, 1) := by decide +kernel
theorem dX4_lookAt_49 : decode cX4_lookAt 49 = .ok (.getfield 9, 3) := by decide +kernel
theorem dX4_lookAt_52 : decode cX4_lookAt 52 = .ok (.iload 6, 2) := by decide +kernel
theorem dX4_lookAt_54 : decode cX4_lookAt 54 = .ok (.baload, 1) := by decide +kernel
theorem dX4_lookAt_55 : decode cX4_lookAt 55 = .ok (.ifCond .eq 30, 3) := by decide +kernel
theorem dX4_lookAt_58 : decode cX4_lookAt 58 = .ok (.aload_n 0, 1) := by decide +kernel
theorem dX4_lookAt_59 : decode cX4_lookAt 59 = .ok (.getfield 15, 3) := by decide +kernel
theorem dX4_lookAt_62 : decode cX4_lookAt 62 = .ok (.iload 6, 2) := by decide +kernel
theorem dX4_lookAt_64 : decode cX4_lookAt 64 = .ok (.baload, 1) := by decide +kernel
theorem dX4_lookAt_65 : decode cX4_lookAt 65 = .ok (.ifCond .eq 20, 3) := by decide +kernel
theorem dX4_lookAt_68 : decode cX4_lookAt 68 = .ok (.aload_n 0, 1) := by decide +kernel
theorem dX4_lookAt_69 : decode cX4_lookAt 69 = .ok (.dup, 1) := by decide +kernel
theorem dX4_lookAt_70 : decode cX4_lookAt 70 = .ok (.getfield 108, 3) := by decide +kernel
theorem dX4_lookAt_73 : decode cX4_lookAt 73 = .ok (.iload 5, 2) := by decide +kernel
theorem dX4_lookAt_75 : decode cX4_lookAt 75 = .ok (.invokestatic 122, 3) := by decide +kernel
theorem dX4_lookAt_78 : decode cX4_lookAt 78 = .ok (.ior, 1) := by decide +kernel
theorem dX4_lookAt_79 : decode cX4_lookAt 79 = .ok (.putfield 108, 3) := by decide +kernel
theorem dX4_lookAt_82 : decode cX4_lookAt 82 = .ok (.goto 28, 3) := by decide +kernel
theorem dX4_lookAt_85 : decode cX4_lookAt 85 = .ok (.aload_n 0, 1) := by decide +kernel
theorem dX4_lookAt_86 : decode cX4_lookAt 86 = .ok (.getfield 9, 3) := by decide +kernel
theorem dX4_lookAt_89 : decode cX4_lookAt 89 = .ok (.iload 6, 2) := by decide +kernel
theorem dX4_lookAt_91 : decode cX4_lookAt 91 = .ok (.baload, 1) := by decide +kernel
theorem dX4_lookAt_92 : decode cX4_lookAt 92 = .ok (.ifCond .eq 18, 3) := by decide +kernel
theorem dX4_lookAt_95 : decode cX4_lookAt 95 = .ok (.aload_n 0, 1) := by decide +kernel
theorem dX4_lookAt_96 : decode cX4_lookAt 96 = .ok (.getfield 18, 3) := by decide +kernel
theorem dX4_lookAt_99 : decode cX4_lookAt 99 = .ok (.iload 6, 2) := by decide +kernel
theorem dX4_lookAt_101 : decode cX4_lookAt 101 = .ok (.baload, 1) := by decide +kernel
theorem dX4_lookAt_102 : decode cX4_lookAt 102 = .ok (.ifCond .eq 8, 3) := by decide +kernel
theorem dX4_lookAt_105 : decode cX4_lookAt 105 = .ok (.aload_n 0, 1) := by decide +kernel
theorem dX4_lookAt_106 : decode cX4_lookAt 106 = .ok (.iconst 1, 1) := by decide +kernel
theorem dX4_lookAt_107 : decode cX4_lookAt 107 = .ok (.putfield 111, 3) := by decide +kernel
theorem dX4_lookAt_110 : decode cX4_lookAt 110 = .ok (.iinc 4 1, 3) := by decide +kernel
theorem dX4_lookAt_113 : decode cX4_lookAt 113 = .ok (.goto (-88), 3) := by decide +kernel
theorem dX4_lookAt_116 : decode cX4_lookAt 116 = .ok (.return_, 1) := by decide +kernel
theorem dX5_init_0 : decode cX5_init 0 = .ok (.aload_n 0, 1) := by decide +kernel
theorem dX5_init_1 : decode cX5_init 1 = .ok (.invokespecial 3, 3) := by decide +kernel
theorem dX5_init_4 : decode cX5_init 4 = .ok (.aload_n 0, 1) := by decide +kernel
theorem dX5_init_5 : decode cX5_init 5 = .ok (.new 9, 3) := by decide +kernel
theorem dX5_init_8 : decode cX5_init 8 = .ok (.dup, 1) := by decide +kernel
theorem dX5_init_9 : decode cX5_init 9 = .ok (.invokespecial 11, 3) := by decide +kernel
theorem dX5_init_12 : decode cX5_init 12 = .ok (.putfield 12, 3) := by decide +kernel
theorem dX5_init_15 : decode cX5_init 15 = .ok (.aload_n 0, 1) := by decide +kernel
theorem dX5_init_16 : decode cX5_init 16 = .ok (.new 16, 3) := by decide +kernel
theorem dX5_init_19 : decode cX5_init 19 = .ok (.dup, 1) := by decide +kernel
theorem dX5_init_20 : decode cX5_init 20 = .ok (.invokespecial 18, 3) := by decide +kernel
theorem dX5_init_23 : decode cX5_init 23 = .ok (.putfield 19, 3) := by decide +kernel
theorem dX5_init_26 : decode cX5_init 26 = .ok (.aload_n 0, 1) := by decide +kernel
theorem dX5_init_27 : decode cX5_init 27 = .ok (.new 23, 3) := by decide +kernel
theorem dX5_init_30 : decode cX5_init 30 = .ok (.dup, 1) := by decide +kernel
theorem dX5_init_31 : decode cX5_init 31 = .ok (.invokespecial 25, 3) := by decide +kernel
theorem dX5_init_34 : decode cX5_init 34 = .ok (.putfield 26, 3) := by decide +kernel
theorem dX5_init_37 : decode cX5_init 37 = .ok (.aload_n 0, 1) := by decide +kernel
theorem dX5_init_38 : decode cX5_init 38 = .ok (.new 30, 3) := by decide +kernel
theorem dX5_init_41 : decode cX5_init 41 = .ok (.dup, 1) := by decide +kernel
theorem dX5_init_42 : decode cX5_init 42 = .ok (.invokespecial 32, 3) := by decide +kernel
theorem dX5_init_45 : decode cX5_init 45 = .ok (.putfield 33, 3) := by decide +kernel
theorem dX5_init_48 : decode cX5_init 48 = .ok (.return_, 1) := by decide +kernel
theorem dX5_addProcess_0 : decode cX5_addProcess 0 = .ok (.iload_n 1, 1) := by decide +kernel
theorem dX5_addProcess_1 : decode cX5_addProcess 1 = .ok (.iconst 1, 1) := by decide +kernel
theorem dX5_addProcess_2 : decode cX5_addProcess 2 = .ok (.bipush 8, 2) := by decide +kernel
theorem dX5_addProcess_4 : decode cX5_addProcess 4 = .ok (.invokestatic 37, 3) := by decide +kernel
theorem dX5_addProcess_7 : decode cX5_addProcess 7 = .ok (.ifCond .ne 13, 3) := by decide +kernel
theorem dX5_addProcess_10 : decode cX5_addProcess 10 = .ok (.new 41, 3) := by decide +kernel
theorem dX5_addProcess_13 : decode cX5_addProcess 13 = .ok (.dup, 1) := by decide +kernel
theorem dX5_addProcess_14 : decode cX5_addProcess 14 = .ok (.ldc 43, 2) := by decide +kernel
theorem dX5_addProcess_16 : decode cX5_addProcess 16 = .ok (.invokespecial 45, 3) := by decide +kernel
theorem dX5_addProcess_19 : decode cX5_addProcess 19 = .ok (.athrow, 1) := by decide +kernel
theorem dX5_addProcess_20 : decode cX5_addProcess 20 = .ok (.aload_n 0, 1) := by decide +kernel
theorem dX5_addProcess_21 : decode cX5_addProcess 21 = .ok (.getfield 12, 3) := by decide +kernel
theorem dX5_addProcess_24 : decode cX5_addProcess 24 = .ok (.getfield 48, 3) := by decide +kernel
theorem dX5_addProcess_27 : decode cX5_addProcess 27 = .ok (.iconst 5, 1) := by decide +kernel
theorem dX5_addProcess_28 : decode cX5_addProcess 28 = .ok (.if_icmp .lt 13, 3) := by decide +kernel
theorem dX5_addProcess_31 : decode cX5_addProcess 31 = .ok (.new 52, 3) := by decide +kernel
theorem dX5_addProcess_34 : decode cX5_addProcess 34 = .ok (.dup, 1) := by decide +kernel
theorem dX5_addProcess_35 : decode cX5_addProcess 35 = .ok (.ldc 54, 2) := by decide +kernel
theorem dX5_addProcess_37 : decode cX5_addProcess 37 = .ok (.invokespecial 56, 3) := by decide +kernel
theorem dX5_addProcess_40 : decode cX5_addProcess 40 = .ok (.athrow, 1) := by decide +kernel
theorem dX5_addProcess_41 : decode cX5_addProcess 41 = .ok (.aload_n 0, 1) := by decide +kernel
theorem dX5_addProcess_42 : decode cX5_addProcess 42 = .ok (.getfield 19, 3) := by decide +kernel
theorem dX5_addProcess_45 : decode cX5_addProcess 45 = .ok (.invokevirtual 57, 3) := by decide +kernel
theorem dX5_addProcess_48 : decode cX5_addProcess 48 = .ok (.aload_n 0, 1) := by decide +kernel
theorem dX5_addProcess_49 : decode cX5_addProcess 49 = .ok (.getfield 12, 3) := by decide +kernel
theorem dX5_addProcess_52 : decode cX5_addProcess 52 = .ok (.iload_n 1, 1) := by decide +kernel
theorem dX5_addProcess_53 : decode cX5_addProcess 53 = .ok (.invokevirtual 60, 3) := by decide +kernel
theorem dX5_addProcess_56 : decode cX5_addProcess 56 = .ok (.ireturn, 1) := by decide +kernel
theorem dX5_addVariable_0 : decode cX5_addVariable 0 = .ok (.iload_n 1, 1) := by decide +kernel
theorem dX5_addVariable_1 : decode cX5_addVariable 1 = .ok (.iconst 1, 1) := by decide +kernel
theorem dX5_addVariable_2 : decode cX5_addVariable 2 = .ok (.bipush 9, 2) := by decide +kernel
theorem dX5_addVariable_4 : decode cX5_addVariable 4 = .ok (.invokestatic 37, 3) := by decide +kernel
theorem dX5_addVariable_7 : decode cX5_addVariable 7 = .ok (.ifCond .ne 13, 3) := by decide +kernel
theorem dX5_addVariable_10 : decode cX5_addVariable 10 = .ok (.new 41, 3) := by decide +kernel
theorem dX5_addVariable_13 : decode cX5_addVariable 13 = .ok (.dup, 1) := by decide +kernel
theorem dX5_addVariable_14 : decode cX5_addVariable 14 = .ok (.ldc 64, 2) := by decide +kernel
theorem dX5_addVariable_16 : decode cX5_addVariable 16 = .ok (.invokespecial 45, 3) := by decide +kernel
theorem dX5_addVariable_19 : decode cX5_addVariable 19 = .ok (.athrow, 1) := by decide +kernel
theorem dX5_addVariable_20 : decode cX5_addVariable 20 = .ok (.iload_n 2, 1) := by decide +kernel
theorem dX5_addVariable_21 : decode cX5_addVariable 21 = .ok (.iconst 0, 1) := by decide +kernel
theorem dX5_addVariable_22 : decode cX5_addVariable 22 = .ok (.iload_n 1, 1) := by decide +kernel
theorem dX5_addVariable_23 : decode cX5_addVariable 23 = .ok (.invokestatic 37, 3) := by decide +kernel
theorem dX5_addVariable_26 : decode cX5_addVariable 26 = .ok (.ifCond .ne 13, 3) := by decide +kernel
theorem dX5_addVariable_29 : decode cX5_addVariable 29 = .ok (.new 41, 3) := by decide +kernel
theorem dX5_addVariable_32 : decode cX5_addVariable 32 = .ok (.dup, 1) := by decide +kernel
theorem dX5_addVariable_33 : decode cX5_addVariable 33 = .ok (.ldc 66, 2) := by decide +kernel
theorem dX5_addVariable_35 : decode cX5_addVariable 35 = .ok (.invokespecial 45, 3) := by decide +kernel
theorem dX5_addVariable_38 : decode cX5_addVariable 38 = .ok (.athrow, 1) := by decide +kernel
theorem dX5_addVariable_39 : decode cX5_addVariable 39 = .ok (.aload_n 0, 1) := by decide +kernel
theorem dX5_addVariable_40 : decode cX5_addVariable 40 = .ok (.getfield 12, 3) := by decide +kernel
theorem dX5_addVariable_43 : decode cX5_addVariable 43 = .ok (.getfield 68, 3) := by decide +kernel
theorem dX5_addVariable_46 : decode cX5_addVariable 46 = .ok (.iconst 4, 1) := by decide +kernel
theorem dX5_addVariable_47 : decode cX5_addVariable 47 = .ok (.if_icmp .lt 13, 3) := by decide +kernel
theorem dX5_addVariable_50 : decode cX5_addVariable 50 = .ok (.new 52, 3) := by decide +kernel
theorem dX5_addVariable_53 : decode cX5_addVariable 53 = .ok (.dup, 1) := by decide +kernel
theorem dX5_addVariable_54 : decode cX5_addVariable 54 = .ok (.ldc 71, 2) := by decide +kernel
theorem dX5_addVariable_56 : decode cX5_addVariable 56 = .ok (.invokespecial 56, 3) := by decide +kernel
theorem dX5_addVariable_59 : decode cX5_addVariable 59 = .ok (.athrow, 1) := by decide +kernel
theorem dX5_addVariable_60 : decode cX5_addVariable 60 = .ok (.aload_n 0, 1) := by decide +kernel
theorem dX5_addVariable_61 : decode cX5_addVariable 61 = .ok (.getfield 19, 3) := by decide +kernel
theorem dX5_addVariable_64 : decode cX5_addVariable 64 = .ok (.invokevirtual 57, 3) := by decide +kernel
theorem dX5_addVariable_67 : decode cX5_addVariable 67 = .ok (.aload_n 0, 1) := by decide +kernel
theorem dX5_addVariable_68 : decode cX5_addVariable 68 = .ok (.getfield 12, 3) := by decide +kernel
theorem dX5_addVariable_71 : decode cX5_addVariable 71 = .ok (.iload_n 1, 1) := by decide +kernel
theorem dX5_addVariable_72 : decode cX5_addVariable 72 = .ok (.iload_n 2, 1) := by decide +kernel
theorem dX5_addVariable_73 : decode cX5_addVariable 73 = .ok (.invokevirtual 73, 3) := by decide +kernel
theorem dX5_addVariable_76 : decode cX5_addVariable 76 = .ok (.ireturn, 1) := by decide +kernel
theorem dX5_addMove_0 : decode cX5_addMove 0 = .ok (.aload_n 0, 1) := by decide +kernel
theorem dX5_addMove_1 : decode cX5_addMove 1 = .ok (.getfield 12, 3) := by decide +kernel
theorem dX5_addMove_4 : decode cX5_addMove 4 = .ok (.iload_n 1, 1) := by decide +kernel
theorem dX5_addMove_5 : decode cX5_addMove 5 = .ok (.invokevirtual 77, 3) := by decide +kernel
theorem dX5_addMove_8 : decode cX5_addMove 8 = .ok (.ifCond .ne 13, 3) := by decide +kernel
theorem dX5_addMove_11 : decode cX5_addMove 11 = .ok (.new 81, 3) := by decide +kernel
theorem dX5_addMove_14 : decode cX5_addMove 14 = .ok (.dup, 1) := by decide +kernel
theorem dX5_addMove_15 : decode cX5_addMove 15 = .ok (.ldc 83, 2) := by decide +kernel
theorem dX5_addMove_17 : decode cX5_addMove 17 = .ok (.invokespecial 85, 3) := by decide +kernel
theorem dX5_addMove_20 : decode cX5_addMove 20 = .ok (.athrow, 1) := by decide +kernel
theorem dX5_addMove_21 : decode cX5_addMove 21 = .ok (.aload_n 0, 1) := by decide +kernel
theorem dX5_addMove_22 : decode cX5_addMove 22 = .ok (.getfield 12, 3) := by decide +kernel
theorem dX5_addMove_25 : decode cX5_addMove 25 = .ok (.iload_n 1, 1) := by decide +kernel
theorem dX5_addMove_26 : decode cX5_addMove 26 = .ok (.iload_n 2, 1) := by decide +kernel
theorem dX5_addMove_27 : decode cX5_addMove 27 = .ok (.invokevirtual 86, 3) := by decide +kernel
theorem dX5_addMove_30 : decode cX5_addMove 30 = .ok (.ifCond .eq 15, 3) := by decide +kernel
theorem dX5_addMove_33 : decode cX5_addMove 33 = .ok (.aload_n 0, 1) := by decide +kernel
theorem dX5_addMove_34 : decode cX5_addMove 34 = .ok (.getfield 12, 3) := by decide +kernel
theorem dX5_addMove_37 : decode cX5_addMove 37 = .ok (.iload_n 1, 1) := by decide +kernel
theorem dX5_addMove_38 : decode cX5_addMove 38 = .ok (.iload_n 3, 1) := by decide +kernel
theorem dX5_addMove_39 : decode cX5_addMove 39 = .ok (.invokevirtual 86, 3) := by decide +kernel
theorem dX5_addMove_42 : decode cX5_addMove 42 = .ok (.ifCond .ne 13, 3) := by decide +kernel
theorem dX5_addMove_45 : decode cX5_addMove 45 = .ok (.new 41, 3) := by decide +kernel
theorem dX5_addMove_48 : decode cX5_addMove 48 = .ok (.dup, 1) := by decide +kernel
theorem dX5_addMove_49 : decode cX5_addMove 49 = .ok (.ldc 90, 2) := by decide +kernel
theorem dX5_addMove_51 : decode cX5_addMove 51 = .ok (.invokespecial 45, 3) := by decide +kernel
theorem dX5_addMove_54 : decode cX5_addMove 54 = .ok (.athrow, 1) := by decide +kernel
theorem dX5_addMove_55 : decode cX5_addMove 55 = .ok (.iload 4, 2) := by decide +kernel
theorem dX5_addMove_57 : decode cX5_addMove 57 = .ok (.iconst 0, 1) := by decide +kernel
theorem dX5_addMove_58 : decode cX5_addMove 58 = .ok (.bipush 9, 2) := by decide +kernel
theorem dX5_addMove_60 : decode cX5_addMove 60 = .ok (.invokestatic 37, 3) := by decide +kernel
theorem dX5_addMove_63 : decode cX5_addMove 63 = .ok (.ifCond .ne 13, 3) := by decide +kernel
theorem dX5_addMove_66 : decode cX5_addMove 66 = .ok (.new 41, 3) := by decide +kernel
theorem dX5_addMove_69 : decode cX5_addMove 69 = .ok (.dup, 1) := by decide +kernel
theorem dX5_addMove_70 : decode cX5_addMove 70 = .ok (.ldc 92, 2) := by decide +kernel
theorem dX5_addMove_72 : decode cX5_addMove 72 = .ok (.invokespecial 45, 3) := by decide +kernel
theorem dX5_addMove_75 : decode cX5_addMove 75 = .ok (.athrow, 1) := by decide +kernel
theorem dX5_addMove_76 : decode cX5_addMove 76 = .ok (.aload_n 0, 1) := by decide +kernel
theorem dX5_addMove_77 : decode cX5_addMove 77 = .ok (.getfield 12, 3) := by decide +kernel
theorem dX5_addMove_80 : decode cX5_addMove 80 = .ok (.iload_n 1, 1) := by decide +kernel
theorem dX5_addMove_81 : decode cX5_addMove 81 = .ok (.invokevirtual 94, 3) := by decide +kernel
theorem dX5_addMove_84 : decode cX5_addMove 84 = .ok (.bipush 16, 2) := by decide +kernel
theorem dX5_addMove_86 : decode cX5_addMove 86 = .ok (.if_icmp .lt 13, 3) := by decide +kernel
theorem dX5_addMove_89 : decode cX5_addMove 89 = .ok (.new 52, 3) := by decide +kernel
theorem dX5_addMove_92 : decode cX5_addMove 92 = .ok (.dup, 1) := by decide +kernel
theorem dX5_addMove_93 : decode cX5_addMove 93 = .ok (.ldc 97, 2) := by decide +kernel
theorem dX5_addMove_95 : decode cX5_addMove 95 = .ok (.invokespecial 56, 3) := by decide +kernel
theorem dX5_addMove_98 : decode cX5_addMove 98 = .ok (.athrow, 1) := by decide +kernel
theorem dX5_addMove_99 : decode cX5_addMove 99 = .ok (.aload_n 0, 1) := by decide +kernel
theorem dX5_addMove_100 : decode cX5_addMove 100 = .ok (.getfield 19, 3) := by decide +kernel
theorem dX5_addMove_103 : decode cX5_addMove 103 = .ok (.invokevirtual 57, 3) := by decide +kernel
theorem dX5_addMove_106 : decode cX5_addMove 106 = .ok (.aload_n 0, 1) := by decide +kernel
theorem dX5_addMove_107 : decode cX5_addMove 107 = .ok (.getfield 12, 3) := by decide +kernel
theorem dX5_addMove_110 : decode cX5_addMove 110 = .ok (.iload_n 1, 1) := by decide +kernel
theorem dX5_addMove_111 : decode cX5_addMove 111 = .ok (.iload_n 2, 1) := by decide +kernel
theorem dX5_addMove_112 : decode cX5_addMove 112 = .ok (.iload_n 3, 1) := by decide +kernel
theorem dX5_addMove_113 : decode cX5_addMove 113 = .ok (.iload 4, 2) := by decide +kernel
theorem dX5_addMove_115 : decode cX5_addMove 115 = .ok (.invokevirtual 99, 3) := by decide +kernel
theorem dX5_addMove_118 : decode cX5_addMove 118 = .ok (.ireturn, 1) := by decide +kernel
theorem dX5_guard_0 : decode cX5_guard 0 = .ok (.aload_n 0, 1) := by decide +kernel
theorem dX5_guard_1 : decode cX5_guard 1 = .ok (.getfield 12, 3) := by decide +kernel
theorem dX5_guard_4 : decode cX5_guard 4 = .ok (.iload_n 1, 1) := by decide +kernel
theorem dX5_guard_5 : decode cX5_guard 5 = .ok (.iload_n 2, 1) := by decide +kernel
theorem dX5_guard_6 : decode cX5_guard 6 = .ok (.invokevirtual 103, 3) := by decide +kernel
theorem dX5_guard_9 : decode cX5_guard 9 = .ok (.astore 6, 2) := by decide +kernel
theorem dX5_guard_11 : decode cX5_guard 11 = .ok (.aload 6, 2) := by decide +kernel
theorem dX5_guard_13 : decode cX5_guard 13 = .ok (.ifnonnull 13, 3) := by decide +kernel
theorem dX5_guard_16 : decode cX5_guard 16 = .ok (.new 81, 3) := by decide +kernel
theorem dX5_guard_19 : decode cX5_guard 19 = .ok (.dup, 1) := by decide +kernel
theorem dX5_guard_20 : decode cX5_guard 20 = .ok (.ldc 107, 2) := by decide +kernel
theorem dX5_guard_22 : decode cX5_guard 22 = .ok (.invokespecial 85, 3) := by decide +kernel
theorem dX5_guard_25 : decode cX5_guard 25 = .ok (.athrow, 1) := by decide +kernel
theorem dX5_guard_26 : decode cX5_guard 26 = .ok (.iload_n 3, 1) := by decide +kernel
theorem dX5_guard_27 : decode cX5_guard 27 = .ok (.iconst 0, 1) := by decide +kernel
theorem dX5_guard_28 : decode cX5_guard 28 = .ok (.iconst 4, 1) := by decide +kernel
theorem dX5_guard_29 : decode cX5_guard 29 = .ok (.invokestatic 37, 3) := by decide +kernel
theorem dX5_guard_32 : decode cX5_guard 32 = .ok (.ifCond .ne 13, 3) := by decide +kernel
theorem dX5_guard_35 : decode cX5_guard 35 = .ok (.new 41, 3) := by decide +kernel
theorem dX5_guard_38 : decode cX5_guard 38 = .ok (.dup, 1) := by decide +kernel
theorem dX5_guard_39 : decode cX5_guard 39 = .ok (.ldc 109, 2) := by decide +kernel
theorem dX5_guard_41 : decode cX5_guard 41 = .ok (.invokespecial 45, 3) := by decide +kernel
theorem dX5_guard_44 : decode cX5_guard 44 = .ok (.athrow, 1) := by decide +kernel
theorem dX5_guard_45 : decode cX5_guard 45 = .ok (.iload_n 3, 1) := by decide +kernel
theorem dX5_guard_46 : decode cX5_guard 46 = .ok (.ifCond .eq 25, 3) := by decide +kernel
theorem dX5_guard_49 : decode cX5_guard 49 = .ok (.aload_n 0, 1) := by decide +kernel
theorem dX5_guard_50 : decode cX5_guard 50 = .ok (.getfield 12, 3) := by decide +kernel
theorem dX5_guard_53 : decode cX5_guard 53 = .ok (.iload 4, 2) := by decide +kernel
theorem dX5_guard_55 : decode cX5_guard 55 = .ok (.invokevirtual 111, 3) := by decide +kernel
theorem dX5_guard_58 : decode cX5_guard 58 = .ok (.ifCond .ne 13, 3) := by decide +kernel
theorem dX5_guard_61 : decode cX5_guard 61 = .ok (.new 41, 3) := by decide +kernel
theorem dX5_guard_64 : decode cX5_guard 64 = .ok (.dup, 1) := by decide +kernel
theorem dX5_guard_65 : decode cX5_guard 65 = .ok (.ldc 114, 2) := by decide +kernel
theorem dX5_guard_67 : decode cX5_guard 67 = .ok (.invokespecial 45, 3) := by decide +kernel
theorem dX5_guard_70 : decode cX5_guard 70 = .ok (.athrow, 1) := by decide +kernel
theorem dX5_guard_71 : decode cX5_guard 71 = .ok (.iload 5, 2) := by decide +kernel
theorem dX5_guard_73 : decode cX5_guard 73 = .ok (.iconst 0, 1) := by decide +kernel
theorem dX5_guard_74 : decode cX5_guard 74 = .ok (.bipush 9, 2) := by decide +kernel
theorem dX5_guard_76 : decode cX5_guard 76 = .ok (.invokestatic 37, 3) := by decide +kernel
theorem dX5_guard_79 : decode cX5_guard 79 = .ok (.ifCond .ne 13, 3) := by decide +kernel
theorem dX5_guard_82 : decode cX5_guard 82 = .ok (.new 41, 3) := by decide +kernel
theorem dX5_guard_85 : decode cX5_guard 85 = .ok (.dup, 1) := by decide +kernel
theorem dX5_guard_86 : decode cX5_guard 86 = .ok (.ldc 116, 2) := by decide +kernel
theorem dX5_guard_88 : decode cX5_guard 88 = .ok (.invokespecial 45, 3) := by decide +kernel
theorem dX5_guard_91 : decode cX5_guard 91 = .ok (.athrow, 1) := by decide +kernel
theorem dX5_guard_92 : decode cX5_guard 92 = .ok (.aload_n 0, 1) := by decide +kernel
theorem dX5_guard_93 : decode cX5_guard 93 = .ok (.getfield 19, 3) := by decide +kernel
theorem dX5_guard_96 : decode cX5_guard 96 = .ok (.invokevirtual 57, 3) := by decide +kernel
theorem dX5_guard_99 : decode cX5_guard 99 = .ok (.aload 6, 2) := by decide +kernel
theorem dX5_guard_101 : decode cX5_guard 101 = .ok (.iload_n 3, 1) := by decide +kernel
theorem dX5_guard_102 : decode cX5_guard 102 = .ok (.iload 4, 2) := by decide +kernel
theorem dX5_guard_104 : decode cX5_guard 104 = .ok (.iload 5, 2) := by decide +kernel
theorem dX5_guard_106 : decode cX5_guard 106 = .ok (.invokevirtual 118, 3) := by decide +kernel
theorem dX5_guard_109 : decode cX5_guard 109 = .ok (.ireturn, 1) := by decide +kernel
theorem dX5_deed_0 : decode cX5_deed 0 = .ok (.aload_n 0, 1) := by decide +kernel
theorem dX5_deed_1 : decode cX5_deed 1 = .ok (.getfield 12, 3) := by decide +kernel
theorem dX5_deed_4 : decode cX5_deed 4 = .ok (.iload_n 1, 1) := by decide +kernel
theorem dX5_deed_5 : decode cX5_deed 5 = .ok (.iload_n 2, 1) := by decide +kernel
theorem dX5_deed_6 : decode cX5_deed 6 = .ok (.invokevirtual 103, 3) := by decide +kernel
theorem dX5_deed_9 : decode cX5_deed 9 = .ok (.astore 6, 2) := by decide +kernel
theorem dX5_deed_11 : decode cX5_deed 11 = .ok (.aload 6, 2) := by decide +kernel
theorem dX5_deed_13 : decode cX5_deed 13 = .ok (.ifnonnull 13, 3) := by decide +kernel
theorem dX5_deed_16 : decode cX5_deed 16 = .ok (.new 81, 3) := by decide +kernel
theorem dX5_deed_19 : decode cX5_deed 19 = .ok (.dup, 1) := by decide +kernel
theorem dX5_deed_20 : decode cX5_deed 20 = .ok (.ldc 107, 2) := by decide +kernel
theorem dX5_deed_22 : decode cX5_deed 22 = .ok (.invokespecial 85, 3) := by decide +kernel
theorem dX5_deed_25 : decode cX5_deed 25 = .ok (.athrow, 1) := by decide +kernel
theorem dX5_deed_26 : decode cX5_deed 26 = .ok (.iload_n 3, 1) := by decide +kernel
theorem dX5_deed_27 : decode cX5_deed 27 = .ok (.iconst 0, 1) := by decide +kernel
theorem dX5_deed_28 : decode cX5_deed 28 = .ok (.iconst 2, 1) := by decide +kernel
theorem dX5_deed_29 : decode cX5_deed 29 = .ok (.invokestatic 37, 3) := by decide +kernel
theorem dX5_deed_32 : decode cX5_deed 32 = .ok (.ifCond .ne 13, 3) := by decide +kernel
theorem dX5_deed_35 : decode cX5_deed 35 = .ok (.new 41, 3) := by decide +kernel
theorem dX5_deed_38 : decode cX5_deed 38 = .ok (.dup, 1) := by decide +kernel
theorem dX5_deed_39 : decode cX5_deed 39 = .ok (.ldc 124, 2) := by decide +kernel
theorem dX5_deed_41 : decode cX5_deed 41 = .ok (.invokespecial 45, 3) := by decide +kernel
theorem dX5_deed_44 : decode cX5_deed 44 = .ok (.athrow, 1) := by decide +kernel
theorem dX5_deed_45 : decode cX5_deed 45 = .ok (.iload_n 3, 1) := by decide +kernel
theorem dX5_deed_46 : decode cX5_deed 46 = .ok (.ifCond .eq 25, 3) := by decide +kernel
theorem dX5_deed_49 : decode cX5_deed 49 = .ok (.aload_n 0, 1) := by decide +kernel
theorem dX5_deed_50 : decode cX5_deed 50 = .ok (.getfield 12, 3) := by decide +kernel
theorem dX5_deed_53 : decode cX5_deed 53 = .ok (.iload 4, 2) := by decide +kernel
theorem dX5_deed_55 : decode cX5_deed 55 = .ok (.invokevirtual 111, 3) := by decide +kernel
theorem dX5_deed_58 : decode cX5_deed 58 = .ok (.ifCond .ne 13, 3) := by decide +kernel
theorem dX5_deed_61 : decode cX5_deed 61 = .ok (.new 41, 3) := by decide +kernel
theorem dX5_deed_64 : decode cX5_deed 64 = .ok (.dup, 1) := by decide +kernel
theorem dX5_deed_65 : decode cX5_deed 65 = .ok (.ldc 114, 2) := by decide +kernel
theorem dX5_deed_67 : decode cX5_deed 67 = .ok (.invokespecial 45, 3) := by decide +kernel
theorem dX5_deed_70 : decode cX5_deed 70 = .ok (.athrow, 1) := by decide +kernel
theorem dX5_deed_71 : decode cX5_deed 71 = .ok (.iload 5, 2) := by decide +kernel
theorem dX5_deed_73 : decode cX5_deed 73 = .ok (.bipush (-9), 2) := by decide +kernel
theorem dX5_deed_75 : decode cX5_deed 75 = .ok (.bipush 9, 2) := by decide +kernel
theorem dX5_deed_77 : decode cX5_deed 77 = .ok (.invokestatic 37, 3) := by decide +kernel
theorem dX5_deed_80 : decode cX5_deed 80 = .ok (.ifCond .ne 13, 3) := by decide +kernel
theorem dX5_deed_83 : decode cX5_deed 83 = .ok (.new 41, 3) := by decide +kernel
theorem dX5_deed_86 : decode cX5_deed 86 = .ok (.dup, 1) := by decide +kernel
theorem dX5_deed_87 : decode cX5_deed 87 = .ok (.ldc 126, 2) := by decide +kernel
theorem dX5_deed_89 : decode cX5_deed 89 = .ok (.invokespecial 45, 3) := by decide +kernel
theorem dX5_deed_92 : decode cX5_deed 92 = .ok (.athrow, 1) := by decide +kernel
theorem dX5_deed_93 : decode cX5_deed 93 = .ok (.aload_n 0, 1) := by decide +kernel
theorem dX5_deed_94 : decode cX5_deed 94 = .ok (.getfield 19, 3) := by decide +kernel
theorem dX5_deed_97 : decode cX5_deed 97 = .ok (.invokevirtual 57, 3) := by decide +kernel
theorem dX5_deed_100 : decode cX5_deed 100 = .ok (.aload 6, 2) := by decide +kernel
theorem dX5_deed_102 : decode cX5_deed 102 = .ok (.iload_n 3, 1) := by decide +kernel
theorem dX5_deed_103 : decode cX5_deed 103 = .ok (.iload 4, 2) := by decide +kernel
theorem dX5_deed_105 : decode cX5_deed 105 = .ok (.iload 5, 2) := by decide +kernel
theorem dX5_deed_107 : decode cX5_deed 107 = .ok (.aload_n 0, 1) := by decide +kernel
theorem dX5_deed_108 : decode cX5_deed 108 = .ok (.getfield 12, 3) := by decide +kernel
theorem dX5_deed_111 : decode cX5_deed 111 = .ok (.iload 4, 2) := by decide +kernel
theorem dX5_deed_113 : decode cX5_deed 113 = .ok (.invokevirtual 128, 3) := by decide +kernel
theorem dX5_deed_116 : decode cX5_deed 116 = .ok (.invokevirtual 131, 3) := by decide +kernel
theorem dX5_deed_119 : decode cX5_deed 119 = .ok (.ireturn, 1) := by decide +kernel
theorem dX5_count_0 : decode cX5_count 0 = .ok (.iload_n 1, 1) := by decide +kernel
theorem dX5_count_1 : decode cX5_count 1 = .ok (.iconst 0, 1) := by decide +kernel
theorem dX5_count_2 : decode cX5_count 2 = .ok (.iconst 5, 1) := by decide +kernel
theorem dX5_count_3 : decode cX5_count 3 = .ok (.invokestatic 37, 3) := by decide +kernel
theorem dX5_count_6 : decode cX5_count 6 = .ok (.ifCond .ne 13, 3) := by decide +kernel
theorem dX5_count_9 : decode cX5_count 9 = .ok (.new 81, 3) := by decide +kernel
theorem dX5_count_12 : decode cX5_count 12 = .ok (.dup, 1) := by decide +kernel
theorem dX5_count_13 : decode cX5_count 13 = .ok (.ldc 134, 2) := by decide +kernel
theorem dX5_count_15 : decode cX5_count 15 = .ok (.invokespecial 85, 3) := by decide +kernel
theorem dX5_count_18 : decode cX5_count 18 = .ok (.athrow, 1) := by decide +kernel
theorem dX5_count_19 : decode cX5_count 19 = .ok (.aload_n 0, 1) := by decide +kernel
theorem dX5_count_20 : decode cX5_count 20 = .ok (.iload_n 1, 1) := by decide +kernel
theorem dX5_count_21 : decode cX5_count 21 = .ok (.invokevirtual 136, 3) := by decide +kernel
theorem dX5_count_24 : decode cX5_count 24 = .ok (.ireturn, 1) := by decide +kernel
theorem dX5_explore_0 : decode cX5_explore 0 = .ok (.aload_n 0, 1) := by decide +kernel
theorem dX5_explore_1 : decode cX5_explore 1 = .ok (.getfield 12, 3) := by decide +kernel
theorem dX5_explore_4 : decode cX5_explore 4 = .ok (.getfield 48, 3) := by decide +kernel
theorem dX5_explore_7 : decode cX5_explore 7 = .ok (.ifCond .ne 13, 3) := by decide +kernel
theorem dX5_explore_10 : decode cX5_explore 10 = .ok (.new 52, 3) := by decide +kernel
theorem dX5_explore_13 : decode cX5_explore 13 = .ok (.dup, 1) := by decide +kernel
theorem dX5_explore_14 : decode cX5_explore 14 = .ok (.ldc 139, 2) := by decide +kernel
theorem dX5_explore_16 : decode cX5_explore 16 = .ok (.invokespecial 56, 3) := by decide +kernel
theorem dX5_explore_19 : decode cX5_explore 19 = .ok (.athrow, 1) := by decide +kernel
theorem dX5_explore_20 : decode cX5_explore 20 = .ok (.aload_n 0, 1) := by decide +kernel
theorem dX5_explore_21 : decode cX5_explore 21 = .ok (.getfield 33, 3) := by decide +kernel
theorem dX5_explore_24 : decode cX5_explore 24 = .ok (.invokevirtual 141, 3) := by decide +kernel
theorem dX5_explore_27 : decode cX5_explore 27 = .ok (.aload_n 0, 1) := by decide +kernel
theorem dX5_explore_28 : decode cX5_explore 28 = .ok (.getfield 19, 3) := by decide +kernel
theorem dX5_explore_31 : decode cX5_explore 31 = .ok (.aload_n 0, 1) := by decide +kernel
theorem dX5_explore_32 : decode cX5_explore 32 = .ok (.getfield 12, 3) := by decide +kernel
theorem dX5_explore_35 : decode cX5_explore 35 = .ok (.invokevirtual 142, 3) := by decide +kernel
theorem dX5_explore_38 : decode cX5_explore 38 = .ok (.ireturn, 1) := by decide +kernel
theorem dX5_state_0 : decode cX5_state 0 = .ok (.aload_n 0, 1) := by decide +kernel
theorem dX5_state_1 : decode cX5_state 1 = .ok (.getfield 19, 3) := by decide +kernel
theorem dX5_state_4 : decode cX5_state 4 = .ok (.iload_n 1, 1) := by decide +kernel
theorem dX5_state_5 : decode cX5_state 5 = .ok (.invokevirtual 146, 3) := by decide +kernel
theorem dX5_state_8 : decode cX5_state 8 = .ok (.ifCond .ne 13, 3) := by decide +kernel
theorem dX5_state_11 : decode cX5_state 11 = .ok (.new 81, 3) := by decide +kernel
theorem dX5_state_14 : decode cX5_state 14 = .ok (.dup, 1) := by decide +kernel
theorem dX5_state_15 : decode cX5_state 15 = .ok (.ldc 149, 2) := by decide +kernel
theorem dX5_state_17 : decode cX5_state 17 = .ok (.invokespecial 85, 3) := by decide +kernel
theorem dX5_state_20 : decode cX5_state 20 = .ok (.athrow, 1) := by decide +kernel
theorem dX5_state_21 : decode cX5_state 21 = .ok (.iload_n 2, 1) := by decide +kernel
theorem dX5_state_22 : decode cX5_state 22 = .ok (.bipush 9, 2) := by decide +kernel
theorem dX5_state_24 : decode cX5_state 24 = .ok (.if_icmp .ne 12, 3) := by decide +kernel
theorem dX5_state_27 : decode cX5_state 27 = .ok (.aload_n 0, 1) := by decide +kernel
theorem dX5_state_28 : decode cX5_state 28 = .ok (.getfield 19, 3) := by decide +kernel
theorem dX5_state_31 : decode cX5_state 31 = .ok (.iload_n 1, 1) := by decide +kernel
theorem dX5_state_32 : decode cX5_state 32 = .ok (.invokevirtual 151, 3) := by decide +kernel
theorem dX5_state_35 : decode cX5_state 35 = .ok (.ireturn, 1) := by decide +kernel
theorem dX5_state_36 : decode cX5_state 36 = .ok (.iload_n 2, 1) := by decide +kernel
theorem dX5_state_37 : decode cX5_state 37 = .ok (.bipush 10, 2) := by decide +kernel
theorem dX5_state_39 : decode cX5_state 39 = .ok (.if_icmp .ne 12, 3) := by decide +kernel
theorem dX5_state_42 : decode cX5_state 42 = .ok (.aload_n 0, 1) := by decide +kernel
theorem dX5_state_43 : decode cX5_state 43 = .ok (.getfield 19, 3) := by decide +kernel
theorem dX5_state_46 : decode cX5_state 46 = .ok (.iload_n 1, 1) := by decide +kernel
theorem dX5_state_47 : decode cX5_state 47 = .ok (.invokevirtual 154, 3) := by decide +kernel
theorem dX5_state_50 : decode cX5_state 50 = .ok (.ireturn, 1) := by decide +kernel
theorem dX5_state_51 : decode cX5_state 51 = .ok (.aload_n 0, 1) := by decide +kernel
theorem dX5_state_52 : decode cX5_state 52 = .ok (.getfield 12, 3) := by decide +kernel
theorem dX5_state_55 : decode cX5_state 55 = .ok (.iload_n 2, 1) := by decide +kernel
theorem dX5_state_56 : decode cX5_state 56 = .ok (.invokevirtual 77, 3) := by decide +kernel
theorem dX5_state_59 : decode cX5_state 59 = .ok (.ifCond .eq 16, 3) := by decide +kernel
theorem dX5_state_62 : decode cX5_state 62 = .ok (.aload_n 0, 1) := by decide +kernel
theorem dX5_state_63 : decode cX5_state 63 = .ok (.getfield 19, 3) := by decide +kernel
theorem dX5_state_66 : decode cX5_state 66 = .ok (.iload_n 1, 1) := by decide +kernel
theorem dX5_state_67 : decode cX5_state 67 = .ok (.invokevirtual 157, 3) := by decide +kernel
theorem dX5_state_70 : decode cX5_state 70 = .ok (.iload_n 2, 1) := by decide +kernel
theorem dX5_state_71 : decode cX5_state 71 = .ok (.invokestatic 160, 3) := by decide +kernel
theorem dX5_state_74 : decode cX5_state 74 = .ok (.ireturn, 1) := by decide +kernel
theorem dX5_state_75 : decode cX5_state 75 = .ok (.iload_n 2, 1) := by decide +kernel
theorem dX5_state_76 : decode cX5_state 76 = .ok (.iconst 5, 1) := by decide +kernel
theorem dX5_state_77 : decode cX5_state 77 = .ok (.if_icmp .lt 31, 3) := by decide +kernel
theorem dX5_state_80 : decode cX5_state 80 = .ok (.aload_n 0, 1) := by decide +kernel
theorem dX5_state_81 : decode cX5_state 81 = .ok (.getfield 12, 3) := by decide +kernel
theorem dX5_state_84 : decode cX5_state 84 = .ok (.iload_n 2, 1) := by decide +kernel
theorem dX5_state_85 : decode cX5_state 85 = .ok (.iconst 5, 1) := by decide +kernel
theorem dX5_state_86 : decode cX5_state 86 = .ok (.isub, 1) := by decide +kernel
theorem dX5_state_87 : decode cX5_state 87 = .ok (.invokevirtual 111, 3) := by decide +kernel
theorem dX5_state_90 : decode cX5_state 90 = .ok (.ifCond .eq 18, 3) := by decide +kernel
theorem dX5_state_93 : decode cX5_state 93 = .ok (.aload_n 0, 1) := by decide +kernel
theorem dX5_state_94 : decode cX5_state 94 = .ok (.getfield 19, 3) := by decide +kernel
theorem dX5_state_97 : decode cX5_state 97 = .ok (.iload_n 1, 1) := by decide +kernel
theorem dX5_state_98 : decode cX5_state 98 = .ok (.invokevirtual 157, 3) := by decide +kernel
theorem dX5_state_101 : decode cX5_state 101 = .ok (.iload_n 2, 1) := by decide +kernel
theorem dX5_state_102 : decode cX5_state 102 = .ok (.iconst 5, 1) := by decide +kernel
theorem dX5_state_103 : decode cX5_state 103 = .ok (.isub, 1) := by decide +kernel
theorem dX5_state_104 : decode cX5_state 104 = .ok (.invokestatic 163, 3) := by decide +kernel
theorem dX5_state_107 : decode cX5_state 107 = .ok (.ireturn, 1) := by decide +kernel
theorem dX5_state_108 : decode cX5_state 108 = .ok (.new 81, 3) := by decide +kernel
theorem dX5_state_111 : decode cX5_state 111 = .ok (.dup, 1) := by decide +kernel
theorem dX5_state_112 : decode cX5_state 112 = .ok (.ldc 166, 2) := by decide +kernel
theorem dX5_state_114 : decode cX5_state 114 = .ok (.invokespecial 85, 3) := by decide +kernel
theorem dX5_state_117 : decode cX5_state 117 = .ok (.athrow, 1) := by decide +kernel
theorem dX5_step_0 : decode cX5_step 0 = .ok (.aload_n 0, 1) := by decide +kernel
theorem dX5_step_1 : decode cX5_step 1 = .ok (.getfield 19, 3) := by decide +kernel
theorem dX5_step_4 : decode cX5_step 4 = .ok (.iload_n 1, 1) := by decide +kernel
theorem dX5_step_5 : decode cX5_step 5 = .ok (.invokevirtual 146, 3) := by decide +kernel
theorem dX5_step_8 : decode cX5_step 8 = .ok (.ifCond .ne 13, 3) := by decide +kernel
theorem dX5_step_11 : decode cX5_step 11 = .ok (.new 81, 3) := by decide +kernel
theorem dX5_step_14 : decode cX5_step 14 = .ok (.dup, 1) := by decide +kernel
theorem dX5_step_15 : decode cX5_step 15 = .ok (.ldc 149, 2) := by decide +kernel
theorem dX5_step_17 : decode cX5_step 17 = .ok (.invokespecial 85, 3) := by decide +kernel
theorem dX5_step_20 : decode cX5_step 20 = .ok (.athrow, 1) := by decide +kernel
theorem dX5_step_21 : decode cX5_step 21 = .ok (.iload_n 2, 1) := by decide +kernel
theorem dX5_step_22 : decode cX5_step 22 = .ok (.iconst 0, 1) := by decide +kernel
theorem dX5_step_23 : decode cX5_step 23 = .ok (.aload_n 0, 1) := by decide +kernel
theorem dX5_step_24 : decode cX5_step 24 = .ok (.getfield 19, 3) := by decide +kernel
theorem dX5_step_27 : decode cX5_step 27 = .ok (.iload_n 1, 1) := by decide +kernel
theorem dX5_step_28 : decode cX5_step 28 = .ok (.invokevirtual 151, 3) := by decide +kernel
theorem dX5_step_31 : decode cX5_step 31 = .ok (.iconst 1, 1) := by decide +kernel
theorem dX5_step_32 : decode cX5_step 32 = .ok (.isub, 1) := by decide +kernel
theorem dX5_step_33 : decode cX5_step 33 = .ok (.invokestatic 37, 3) := by decide +kernel
theorem dX5_step_36 : decode cX5_step 36 = .ok (.ifCond .ne 13, 3) := by decide +kernel
theorem dX5_step_39 : decode cX5_step 39 = .ok (.new 81, 3) := by decide +kernel
theorem dX5_step_42 : decode cX5_step 42 = .ok (.dup, 1) := by decide +kernel
theorem dX5_step_43 : decode cX5_step 43 = .ok (.ldc 168, 2) := by decide +kernel
theorem dX5_step_45 : decode cX5_step 45 = .ok (.invokespecial 85, 3) := by decide +kernel
theorem dX5_step_48 : decode cX5_step 48 = .ok (.athrow, 1) := by decide +kernel
theorem dX5_step_49 : decode cX5_step 49 = .ok (.iload_n 3, 1) := by decide +kernel
theorem dX5_step_50 : decode cX5_step 50 = .ok (.iconst 0, 1) := by decide +kernel
theorem dX5_step_51 : decode cX5_step 51 = .ok (.iconst 4, 1) := by decide +kernel
theorem dX5_step_52 : decode cX5_step 52 = .ok (.invokestatic 37, 3) := by decide +kernel
theorem dX5_step_55 : decode cX5_step 55 = .ok (.ifCond .ne 13, 3) := by decide +kernel
theorem dX5_step_58 : decode cX5_step 58 = .ok (.new 81, 3) := by decide +kernel
theorem dX5_step_61 : decode cX5_step 61 = .ok (.dup, 1) := by decide +kernel
theorem dX5_step_62 : decode cX5_step 62 = .ok (.ldc 170, 2) := by decide +kernel
theorem dX5_step_64 : decode cX5_step 64 = .ok (.invokespecial 85, 3) := by decide +kernel
theorem dX5_step_67 : decode cX5_step 67 = .ok (.athrow, 1) := by decide +kernel
theorem dX5_step_68 : decode cX5_step 68 = .ok (.aload_n 0, 1) := by decide +kernel
theorem dX5_step_69 : decode cX5_step 69 = .ok (.getfield 19, 3) := by decide +kernel
theorem dX5_step_72 : decode cX5_step 72 = .ok (.iload_n 1, 1) := by decide +kernel
theorem dX5_step_73 : decode cX5_step 73 = .ok (.iload_n 2, 1) := by decide +kernel
theorem dX5_step_74 : decode cX5_step 74 = .ok (.invokevirtual 172, 3) := by decide +kernel
theorem dX5_step_77 : decode cX5_step 77 = .ok (.iload_n 3, 1) := by decide +kernel
theorem dX5_step_78 : decode cX5_step 78 = .ok (.invokestatic 175, 3) := by decide +kernel
theorem dX5_step_81 : decode cX5_step 81 = .ok (.ireturn, 1) := by decide +kernel
theorem dX5_addFact_0 : decode cX5_addFact 0 = .ok (.aload_n 0, 1) := by decide +kernel
theorem dX5_addFact_1 : decode cX5_addFact 1 = .ok (.iload_n 1, 1) := by decide +kernel
theorem dX5_addFact_2 : decode cX5_addFact 2 = .ok (.iload_n 2, 1) := by decide +kernel
theorem dX5_addFact_3 : decode cX5_addFact 3 = .ok (.iload_n 3, 1) := by decide +kernel
theorem dX5_addFact_4 : decode cX5_addFact 4 = .ok (.invokevirtual 178, 3) := by decide +kernel
theorem dX5_addFact_7 : decode cX5_addFact 7 = .ok (.ifCond .ne 13, 3) := by decide +kernel
theorem dX5_addFact_10 : decode cX5_addFact 10 = .ok (.new 41, 3) := by decide +kernel
theorem dX5_addFact_13 : decode cX5_addFact 13 = .ok (.dup, 1) := by decide +kernel
theorem dX5_addFact_14 : decode cX5_addFact 14 = .ok (.ldc 181, 2) := by decide +kernel
theorem dX5_addFact_16 : decode cX5_addFact 16 = .ok (.invokespecial 45, 3) := by decide +kernel
theorem dX5_addFact_19 : decode cX5_addFact 19 = .ok (.athrow, 1) := by decide +kernel
theorem dX5_addFact_20 : decode cX5_addFact 20 = .ok (.aload_n 0, 1) := by decide +kernel
theorem dX5_addFact_21 : decode cX5_addFact 21 = .ok (.getfield 26, 3) := by decide +kernel
theorem dX5_addFact_24 : decode cX5_addFact 24 = .ok (.getfield 183, 3) := by decide +kernel
theorem dX5_addFact_27 : decode cX5_addFact 27 = .ok (.bipush 12, 2) := by decide +kernel
theorem dX5_addFact_29 : decode cX5_addFact 29 = .ok (.if_icmp .lt 13, 3) := by decide +kernel
theorem dX5_addFact_32 : decode cX5_addFact 32 = .ok (.new 52, 3) := by decide +kernel
theorem dX5_addFact_35 : decode cX5_addFact 35 = .ok (.dup, 1) := by decide +kernel
theorem dX5_addFact_36 : decode cX5_addFact 36 = .ok (.ldc 186, 2) := by decide +kernel
theorem dX5_addFact_38 : decode cX5_addFact 38 = .ok (.invokespecial 56, 3) := by decide +kernel
theorem dX5_addFact_41 : decode cX5_addFact 41 = .ok (.athrow, 1) := by decide +kernel
theorem dX5_addFact_42 : decode cX5_addFact 42 = .ok (.aload_n 0, 1) := by decide +kernel
theorem dX5_addFact_43 : decode cX5_addFact 43 = .ok (.getfield 26, 3) := by decide +kernel
theorem dX5_addFact_46 : decode cX5_addFact 46 = .ok (.iload_n 1, 1) := by decide +kernel
theorem dX5_addFact_47 : decode cX5_addFact 47 = .ok (.iload_n 2, 1) := by decide +kernel
theorem dX5_addFact_48 : decode cX5_addFact 48 = .ok (.iload_n 3, 1) := by decide +kernel
theorem dX5_addFact_49 : decode cX5_addFact 49 = .ok (.invokevirtual 188, 3) := by decide +kernel
theorem dX5_addFact_52 : decode cX5_addFact 52 = .ok (.ireturn, 1) := by decide +kernel
theorem dX5_holds_0 : decode cX5_holds 0 = .ok (.aload_n 0, 1) := by decide +kernel
theorem dX5_holds_1 : decode cX5_holds 1 = .ok (.getfield 26, 3) := by decide +kernel
theorem dX5_holds_4 : decode cX5_holds 4 = .ok (.iload_n 1, 1) := by decide +kernel
theorem dX5_holds_5 : decode cX5_holds 5 = .ok (.invokevirtual 191, 3) := by decide +kernel
theorem dX5_holds_8 : decode cX5_holds 8 = .ok (.ifCond .ne 13, 3) := by decide +kernel
theorem dX5_holds_11 : decode cX5_holds 11 = .ok (.new 81, 3) := by decide +kernel
theorem dX5_holds_14 : decode cX5_holds 14 = .ok (.dup, 1) := by decide +kernel
theorem dX5_holds_15 : decode cX5_holds 15 = .ok (.ldc 194, 2) := by decide +kernel
theorem dX5_holds_17 : decode cX5_holds 17 = .ok (.invokespecial 85, 3) := by decide +kernel
theorem dX5_holds_20 : decode cX5_holds 20 = .ok (.athrow, 1) := by decide +kernel
theorem dX5_holds_21 : decode cX5_holds 21 = .ok (.aload_n 0, 1) := by decide +kernel
theorem dX5_holds_22 : decode cX5_holds 22 = .ok (.getfield 19, 3) := by decide +kernel
theorem dX5_holds_25 : decode cX5_holds 25 = .ok (.iload_n 2, 1) := by decide +kernel
theorem dX5_holds_26 : decode cX5_holds 26 = .ok (.invokevirtual 146, 3) := by decide +kernel
theorem dX5_holds_29 : decode cX5_holds 29 = .ok (.ifCond .ne 13, 3) := by decide +kernel
theorem dX5_holds_32 : decode cX5_holds 32 = .ok (.new 81, 3) := by decide +kernel
theorem dX5_holds_35 : decode cX5_holds 35 = .ok (.dup, 1) := by decide +kernel
theorem dX5_holds_36 : decode cX5_holds 36 = .ok (.ldc 149, 2) := by decide +kernel
theorem dX5_holds_38 : decode cX5_holds 38 = .ok (.invokespecial 85, 3) := by decide +kernel
theorem dX5_holds_41 : decode cX5_holds 41 = .ok (.athrow, 1) := by decide +kernel
theorem dX5_holds_42 : decode cX5_holds 42 = .ok (.aload_n 0, 1) := by decide +kernel
theorem dX5_holds_43 : decode cX5_holds 43 = .ok (.getfield 26, 3) := by decide +kernel
theorem dX5_holds_46 : decode cX5_holds 46 = .ok (.iload_n 1, 1) := by decide +kernel
theorem dX5_holds_47 : decode cX5_holds 47 = .ok (.aload_n 0, 1) := by decide +kernel
theorem dX5_holds_48 : decode cX5_holds 48 = .ok (.getfield 19, 3) := by decide +kernel
theorem dX5_holds_51 : decode cX5_holds 51 = .ok (.iload_n 2, 1) := by decide +kernel
theorem dX5_holds_52 : decode cX5_holds 52 = .ok (.invokevirtual 157, 3) := by decide +kernel
theorem dX5_holds_55 : decode cX5_holds 55 = .ok (.invokevirtual 196, 3) := by decide +kernel
theorem dX5_holds_58 : decode cX5_holds 58 = .ok (.ireturn, 1) := by decide +kernel
theorem dX5_where_0 : decode cX5_where 0 = .ok (.aload_n 0, 1) := by decide +kernel
theorem dX5_where_1 : decode cX5_where 1 = .ok (.getfield 26, 3) := by decide +kernel
theorem dX5_where_4 : decode cX5_where 4 = .ok (.iload_n 1, 1) := by decide +kernel
theorem dX5_where_5 : decode cX5_where 5 = .ok (.invokevirtual 191, 3) := by decide +kernel
theorem dX5_where_8 : decode cX5_where 8 = .ok (.ifCond .ne 13, 3) := by decide +kernel
theorem dX5_where_11 : decode cX5_where 11 = .ok (.new 81, 3) := by decide +kernel
theorem dX5_where_14 : decode cX5_where 14 = .ok (.dup, 1) := by decide +kernel
theorem dX5_where_15 : decode cX5_where 15 = .ok (.ldc 194, 2) := by decide +kernel
theorem dX5_where_17 : decode cX5_where 17 = .ok (.invokespecial 85, 3) := by decide +kernel
theorem dX5_where_20 : decode cX5_where 20 = .ok (.athrow, 1) := by decide +kernel
theorem dX5_where_21 : decode cX5_where 21 = .ok (.aload_n 0, 1) := by decide +kernel
theorem dX5_where_22 : decode cX5_where 22 = .ok (.getfield 19, 3) := by decide +kernel
theorem dX5_where_25 : decode cX5_where 25 = .ok (.invokevirtual 199, 3) := by decide +kernel
theorem dX5_where_28 : decode cX5_where 28 = .ok (.ifCond .ne 13, 3) := by decide +kernel
theorem dX5_where_31 : decode cX5_where 31 = .ok (.new 52, 3) := by decide +kernel
theorem dX5_where_34 : decode cX5_where 34 = .ok (.dup, 1) := by decide +kernel
theorem dX5_where_35 : decode cX5_where 35 = .ok (.ldc 203, 2) := by decide +kernel
theorem dX5_where_37 : decode cX5_where 37 = .ok (.invokespecial 56, 3) := by decide +kernel
theorem dX5_where_40 : decode cX5_where 40 = .ok (.athrow, 1) := by decide +kernel
theorem dX5_where_41 : decode cX5_where 41 = .ok (.iload_n 2, 1) := by decide +kernel
theorem dX5_where_42 : decode cX5_where 42 = .ok (.ifCond .eq 11, 3) := by decide +kernel
theorem dX5_where_45 : decode cX5_where 45 = .ok (.aload_n 0, 1) := by decide +kernel
theorem dX5_where_46 : decode cX5_where 46 = .ok (.iload_n 1, 1) := by decide +kernel
theorem dX5_where_47 : decode cX5_where 47 = .ok (.invokevirtual 205, 3) := by decide +kernel
theorem dX5_where_50 : decode cX5_where 50 = .ok (.goto 8, 3) := by decide +kernel
theorem dX5_where_53 : decode cX5_where 53 = .ok (.aload_n 0, 1) := by decide +kernel
theorem dX5_where_54 : decode cX5_where 54 = .ok (.iload_n 1, 1) := by decide +kernel
theorem dX5_where_55 : decode cX5_where 55 = .ok (.invokevirtual 208, 3) := by decide +kernel
theorem dX5_where_58 : decode cX5_where 58 = .ok (.ireturn, 1) := by decide +kernel
theorem dX5_stuck_0 : decode cX5_stuck 0 = .ok (.aload_n 0, 1) := by decide +kernel
theorem dX5_stuck_1 : decode cX5_stuck 1 = .ok (.getfield 19, 3) := by decide +kernel
theorem dX5_stuck_4 : decode cX5_stuck 4 = .ok (.invokevirtual 199, 3) := by decide +kernel
theorem dX5_stuck_7 : decode cX5_stuck 7 = .ok (.ifCond .ne 13, 3) := by decide +kernel
theorem dX5_stuck_10 : decode cX5_stuck 10 = .ok (.new 52, 3) := by decide +kernel
theorem dX5_stuck_13 : decode cX5_stuck 13 = .ok (.dup, 1) := by decide +kernel
theorem dX5_stuck_14 : decode cX5_stuck 14 = .ok (.ldc 203, 2) := by decide +kernel
theorem dX5_stuck_16 : decode cX5_stuck 16 = .ok (.invokespecial 56, 3) := by decide +kernel
theorem dX5_stuck_19 : decode cX5_stuck 19 = .ok (.athrow, 1) := by decide +kernel
theorem dX5_stuck_20 : decode cX5_stuck 20 = .ok (.iconst 0, 1) := by decide +kernel
theorem dX5_stuck_21 : decode cX5_stuck 21 = .ok (.istore_n 1, 1) := by decide +kernel
theorem dX5_stuck_22 : decode cX5_stuck 22 = .ok (.iload_n 1, 1) := by decide +kernel
theorem dX5_stuck_23 : decode cX5_stuck 23 = .ok (.aload_n 0, 1) := by decide +kernel
theorem dX5_stuck_24 : decode cX5_stuck 24 = .ok (.getfield 19, 3) := by decide +kernel
theorem dX5_stuck_27 : decode cX5_stuck 27 = .ok (.getfield 211, 3) := by decide +kernel
theorem dX5_stuck_30 : decode cX5_stuck 30 = .ok (.if_icmp .ge 22, 3) := by decide +kernel
theorem dX5_stuck_33 : decode cX5_stuck 33 = .ok (.aload_n 0, 1) := by decide +kernel
theorem dX5_stuck_34 : decode cX5_stuck 34 = .ok (.getfield 19, 3) := by decide +kernel
theorem dX5_stuck_37 : decode cX5_stuck 37 = .ok (.iload_n 1, 1) := by decide +kernel
theorem dX5_stuck_38 : decode cX5_stuck 38 = .ok (.invokevirtual 151, 3) := by decide +kernel
theorem dX5_stuck_41 : decode cX5_stuck 41 = .ok (.ifCond .ne 5, 3) := by decide +kernel
theorem dX5_stuck_44 : decode cX5_stuck 44 = .ok (.iload_n 1, 1) := by decide +kernel
theorem dX5_stuck_45 : decode cX5_stuck 45 = .ok (.ireturn, 1) := by decide +kernel
theorem dX5_stuck_46 : decode cX5_stuck 46 = .ok (.iinc 1 1, 3) := by decide +kernel
theorem dX5_stuck_49 : decode cX5_stuck 49 = .ok (.goto (-27), 3) := by decide +kernel
theorem dX5_stuck_52 : decode cX5_stuck 52 = .ok (.iconst (-1), 1) := by decide +kernel
theorem dX5_stuck_53 : decode cX5_stuck 53 = .ok (.ireturn, 1) := by decide +kernel
theorem dX5_leads_0 : decode cX5_leads 0 = .ok (.aload_n 0, 1) := by decide +kernel
theorem dX5_leads_1 : decode cX5_leads 1 = .ok (.getfield 26, 3) := by decide +kernel
theorem dX5_leads_4 : decode cX5_leads 4 = .ok (.iload_n 1, 1) := by decide +kernel
theorem dX5_leads_5 : decode cX5_leads 5 = .ok (.invokevirtual 191, 3) := by decide +kernel
theorem dX5_leads_8 : decode cX5_leads 8 = .ok (.ifCond .eq 14, 3) := by decide +kernel
theorem dX5_leads_11 : decode cX5_leads 11 = .ok (.aload_n 0, 1) := by decide +kernel
theorem dX5_leads_12 : decode cX5_leads 12 = .ok (.getfield 26, 3) := by decide +kernel
theorem dX5_leads_15 : decode cX5_leads 15 = .ok (.iload_n 2, 1) := by decide +kernel
theorem dX5_leads_16 : decode cX5_leads 16 = .ok (.invokevirtual 191, 3) := by decide +kernel
theorem dX5_leads_19 : decode cX5_leads 19 = .ok (.ifCond .ne 13, 3) := by decide +kernel
theorem dX5_leads_22 : decode cX5_leads 22 = .ok (.new 81, 3) := by decide +kernel
theorem dX5_leads_25 : decode cX5_leads 25 = .ok (.dup, 1) := by decide +kernel
theorem dX5_leads_26 : decode cX5_leads 26 = .ok (.ldc 194, 2) := by decide +kernel
theorem dX5_leads_28 : decode cX5_leads 28 = .ok (.invokespecial 85, 3) := by decide +kernel
theorem dX5_leads_31 : decode cX5_leads 31 = .ok (.athrow, 1) := by decide +kernel
theorem dX5_leads_32 : decode cX5_leads 32 = .ok (.aload_n 0, 1) := by decide +kernel
theorem dX5_leads_33 : decode cX5_leads 33 = .ok (.getfield 19, 3) := by decide +kernel
theorem dX5_leads_36 : decode cX5_leads 36 = .ok (.invokevirtual 199, 3) := by decide +kernel
theorem dX5_leads_39 : decode cX5_leads 39 = .ok (.ifCond .ne 13, 3) := by decide +kernel
theorem dX5_leads_42 : decode cX5_leads 42 = .ok (.new 52, 3) := by decide +kernel
theorem dX5_leads_45 : decode cX5_leads 45 = .ok (.dup, 1) := by decide +kernel
theorem dX5_leads_46 : decode cX5_leads 46 = .ok (.ldc 203, 2) := by decide +kernel
theorem dX5_leads_48 : decode cX5_leads 48 = .ok (.invokespecial 56, 3) := by decide +kernel
theorem dX5_leads_51 : decode cX5_leads 51 = .ok (.athrow, 1) := by decide +kernel
theorem dX5_leads_52 : decode cX5_leads 52 = .ok (.aload_n 0, 1) := by decide +kernel
theorem dX5_leads_53 : decode cX5_leads 53 = .ok (.getfield 33, 3) := by decide +kernel
theorem dX5_leads_56 : decode cX5_leads 56 = .ok (.iload_n 2, 1) := by decide +kernel
theorem dX5_leads_57 : decode cX5_leads 57 = .ok (.aload_n 0, 1) := by decide +kernel
theorem dX5_leads_58 : decode cX5_leads 58 = .ok (.getfield 19, 3) := by decide +kernel
theorem dX5_leads_61 : decode cX5_leads 61 = .ok (.aload_n 0, 1) := by decide +kernel
theorem dX5_leads_62 : decode cX5_leads 62 = .ok (.getfield 26, 3) := by decide +kernel
theorem dX5_leads_65 : decode cX5_leads 65 = .ok (.aload_n 0, 1) := by decide +kernel
theorem dX5_leads_66 : decode cX5_leads 66 = .ok (.getfield 12, 3) := by decide +kernel
theorem dX5_leads_69 : decode cX5_leads 69 = .ok (.getfield 48, 3) := by decide +kernel
theorem dX5_leads_72 : decode cX5_leads 72 = .ok (.invokevirtual 214, 3) := by decide +kernel
theorem dX5_leads_75 : decode cX5_leads 75 = .ok (.iconst 0, 1) := by decide +kernel
theorem dX5_leads_76 : decode cX5_leads 76 = .ok (.istore_n 3, 1) := by decide +kernel
theorem dX5_leads_77 : decode cX5_leads 77 = .ok (.iload_n 3, 1) := by decide +kernel
theorem dX5_leads_78 : decode cX5_leads 78 = .ok (.aload_n 0, 1) := by decide +kernel
theorem dX5_leads_79 : decode cX5_leads 79 = .ok (.getfield 19, 3) := by decide +kernel
theorem dX5_leads_82 : decode cX5_leads 82 = .ok (.getfield 211, 3) := by decide +kernel
theorem dX5_leads_85 : decode cX5_leads 85 = .ok (.if_icmp .ge 41, 3) := by decide +kernel
theorem dX5_leads_88 : decode cX5_leads 88 = .ok (.aload_n 0, 1) := by decide +kernel
theorem dX5_leads_89 : decode cX5_leads 89 = .ok (.getfield 33, 3) := by decide +kernel
theorem dX5_leads_92 : decode cX5_leads 92 = .ok (.iload_n 3, 1) := by decide +kernel
theorem dX5_leads_93 : decode cX5_leads 93 = .ok (.invokevirtual 218, 3) := by decide +kernel
theorem dX5_leads_96 : decode cX5_leads 96 = .ok (.ifCond .eq 24, 3) := by decide +kernel
theorem dX5_leads_99 : decode cX5_leads 99 = .ok (.aload_n 0, 1) := by decide +kernel
theorem dX5_leads_100 : decode cX5_leads 100 = .ok (.getfield 26, 3) := by decide +kernel
theorem dX5_leads_103 : decode cX5_leads 103 = .ok (.iload_n 1, 1) := by decide +kernel
theorem dX5_leads_104 : decode cX5_leads 104 = .ok (.aload_n 0, 1) := by decide +kernel
theorem dX5_leads_105 : decode cX5_leads 105 = .ok (.getfield 19, 3) := by decide +kernel
theorem dX5_leads_108 : decode cX5_leads 108 = .ok (.iload_n 3, 1) := by decide +kernel
theorem dX5_leads_109 : decode cX5_leads 109 = .ok (.invokevirtual 157, 3) := by decide +kernel
theorem dX5_leads_112 : decode cX5_leads 112 = .ok (.invokevirtual 196, 3) := by decide +kernel
theorem dX5_leads_115 : decode cX5_leads 115 = .ok (.ifCond .eq 5, 3) := by decide +kernel
theorem dX5_leads_118 : decode cX5_leads 118 = .ok (.iload_n 3, 1) := by decide +kernel
theorem dX5_leads_119 : decode cX5_leads 119 = .ok (.ireturn, 1) := by decide +kernel
theorem dX5_leads_120 : decode cX5_leads 120 = .ok (.iinc 3 1, 3) := by decide +kernel
theorem dX5_leads_123 : decode cX5_leads 123 = .ok (.goto (-46), 3) := by decide +kernel
theorem dX5_leads_126 : decode cX5_leads 126 = .ok (.iconst (-1), 1) := by decide +kernel
theorem dX5_leads_127 : decode cX5_leads 127 = .ok (.ireturn, 1) := by decide +kernel
theorem dX5_isBad_0 : decode cX5_isBad 0 = .ok (.aload_n 0, 1) := by decide +kernel
theorem dX5_isBad_1 : decode cX5_isBad 1 = .ok (.getfield 26, 3) := by decide +kernel
theorem dX5_isBad_4 : decode cX5_isBad 4 = .ok (.iload_n 1, 1) := by decide +kernel
theorem dX5_isBad_5 : decode cX5_isBad 5 = .ok (.invokevirtual 191, 3) := by decide +kernel
theorem dX5_isBad_8 : decode cX5_isBad 8 = .ok (.ifCond .ne 13, 3) := by decide +kernel
theorem dX5_isBad_11 : decode cX5_isBad 11 = .ok (.new 81, 3) := by decide +kernel
theorem dX5_isBad_14 : decode cX5_isBad 14 = .ok (.dup, 1) := by decide +kernel
theorem dX5_isBad_15 : decode cX5_isBad 15 = .ok (.ldc 194, 2) := by decide +kernel
theorem dX5_isBad_17 : decode cX5_isBad 17 = .ok (.invokespecial 85, 3) := by decide +kernel
theorem dX5_isBad_20 : decode cX5_isBad 20 = .ok (.athrow, 1) := by decide +kernel
theorem dX5_isBad_21 : decode cX5_isBad 21 = .ok (.aload_n 0, 1) := by decide +kernel
theorem dX5_isBad_22 : decode cX5_isBad 22 = .ok (.getfield 19, 3) := by decide +kernel
theorem dX5_isBad_25 : decode cX5_isBad 25 = .ok (.iload_n 2, 1) := by decide +kernel
theorem dX5_isBad_26 : decode cX5_isBad 26 = .ok (.invokevirtual 146, 3) := by decide +kernel
theorem dX5_isBad_29 : decode cX5_isBad 29 = .ok (.ifCond .ne 13, 3) := by decide +kernel
theorem dX5_isBad_32 : decode cX5_isBad 32 = .ok (.new 81, 3) := by decide +kernel
theorem dX5_isBad_35 : decode cX5_isBad 35 = .ok (.dup, 1) := by decide +kernel
theorem dX5_isBad_36 : decode cX5_isBad 36 = .ok (.ldc 149, 2) := by decide +kernel
theorem dX5_isBad_38 : decode cX5_isBad 38 = .ok (.invokespecial 85, 3) := by decide +kernel
theorem dX5_isBad_41 : decode cX5_isBad 41 = .ok (.athrow, 1) := by decide +kernel
theorem dX5_isBad_42 : decode cX5_isBad 42 = .ok (.aload_n 0, 1) := by decide +kernel
theorem dX5_isBad_43 : decode cX5_isBad 43 = .ok (.getfield 33, 3) := by decide +kernel
theorem dX5_isBad_46 : decode cX5_isBad 46 = .ok (.iload_n 1, 1) := by decide +kernel
theorem dX5_isBad_47 : decode cX5_isBad 47 = .ok (.aload_n 0, 1) := by decide +kernel
theorem dX5_isBad_48 : decode cX5_isBad 48 = .ok (.getfield 19, 3) := by decide +kernel
theorem dX5_isBad_51 : decode cX5_isBad 51 = .ok (.aload_n 0, 1) := by decide +kernel
theorem dX5_isBad_52 : decode cX5_isBad 52 = .ok (.getfield 26, 3) := by decide +kernel
theorem dX5_isBad_55 : decode cX5_isBad 55 = .ok (.aload_n 0, 1) := by decide +kernel
theorem dX5_isBad_56 : decode cX5_isBad 56 = .ok (.getfield 12, 3) := by decide +kernel
theorem dX5_isBad_59 : decode cX5_isBad 59 = .ok (.getfield 48, 3) := by decide +kernel
theorem dX5_isBad_62 : decode cX5_isBad 62 = .ok (.invokevirtual 214, 3) := by decide +kernel
theorem dX5_isBad_65 : decode cX5_isBad 65 = .ok (.aload_n 0, 1) := by decide +kernel
theorem dX5_isBad_66 : decode cX5_isBad 66 = .ok (.getfield 33, 3) := by decide +kernel
theorem dX5_isBad_69 : decode cX5_isBad 69 = .ok (.iload_n 2, 1) := by decide +kernel
theorem dX5_isBad_70 : decode cX5_isBad 70 = .ok (.invokevirtual 218, 3) := by decide +kernel
theorem dX5_isBad_73 : decode cX5_isBad 73 = .ok (.ireturn, 1) := by decide +kernel
theorem dX5_trapped_0 : decode cX5_trapped 0 = .ok (.aload_n 0, 1) := by decide +kernel
theorem dX5_trapped_1 : decode cX5_trapped 1 = .ok (.getfield 26, 3) := by decide +kernel
theorem dX5_trapped_4 : decode cX5_trapped 4 = .ok (.iload_n 1, 1) := by decide +kernel
theorem dX5_trapped_5 : decode cX5_trapped 5 = .ok (.invokevirtual 191, 3) := by decide +kernel
theorem dX5_trapped_8 : decode cX5_trapped 8 = .ok (.ifCond .ne 13, 3) := by decide +kernel
theorem dX5_trapped_11 : decode cX5_trapped 11 = .ok (.new 81, 3) := by decide +kernel
theorem dX5_trapped_14 : decode cX5_trapped 14 = .ok (.dup, 1) := by decide +kernel
theorem dX5_trapped_15 : decode cX5_trapped 15 = .ok (.ldc 194, 2) := by decide +kernel
theorem dX5_trapped_17 : decode cX5_trapped 17 = .ok (.invokespecial 85, 3) := by decide +kernel
theorem dX5_trapped_20 : decode cX5_trapped 20 = .ok (.athrow, 1) := by decide +kernel
theorem dX5_trapped_21 : decode cX5_trapped 21 = .ok (.aload_n 0, 1) := by decide +kernel
theorem dX5_trapped_22 : decode cX5_trapped 22 = .ok (.getfield 19, 3) := by decide +kernel
theorem dX5_trapped_25 : decode cX5_trapped 25 = .ok (.invokevirtual 199, 3) := by decide +kernel
theorem dX5_trapped_28 : decode cX5_trapped 28 = .ok (.ifCond .ne 13, 3) := by decide +kernel
theorem dX5_trapped_31 : decode cX5_trapped 31 = .ok (.new 52, 3) := by decide +kernel
theorem dX5_trapped_34 : decode cX5_trapped 34 = .ok (.dup, 1) := by decide +kernel
theorem dX5_trapped_35 : decode cX5_trapped 35 = .ok (.ldc 203, 2) := by decide +kernel
theorem dX5_trapped_37 : decode cX5_trapped 37 = .ok (.invokespecial 56, 3) := by decide +kernel
theorem dX5_trapped_40 : decode cX5_trapped 40 = .ok (.athrow, 1) := by decide +kernel
theorem dX5_trapped_41 : decode cX5_trapped 41 = .ok (.aload_n 0, 1) := by decide +kernel
theorem dX5_trapped_42 : decode cX5_trapped 42 = .ok (.getfield 33, 3) := by decide +kernel
theorem dX5_trapped_45 : decode cX5_trapped 45 = .ok (.iload_n 1, 1) := by decide +kernel
theorem dX5_trapped_46 : decode cX5_trapped 46 = .ok (.aload_n 0, 1) := by decide +kernel
theorem dX5_trapped_47 : decode cX5_trapped 47 = .ok (.getfield 19, 3) := by decide +kernel
theorem dX5_trapped_50 : decode cX5_trapped 50 = .ok (.aload_n 0, 1) := by decide +kernel
theorem dX5_trapped_51 : decode cX5_trapped 51 = .ok (.getfield 26, 3) := by decide +kernel
theorem dX5_trapped_54 : decode cX5_trapped 54 = .ok (.aload_n 0, 1) := by decide +kernel
theorem dX5_trapped_55 : decode cX5_trapped 55 = .ok (.getfield 12, 3) := by decide +kernel
theorem dX5_trapped_58 : decode cX5_trapped 58 = .ok (.getfield 48, 3) := by decide +kernel
theorem dX5_trapped_61 : decode cX5_trapped 61 = .ok (.invokevirtual 214, 3) := by decide +kernel
theorem dX5_trapped_64 : decode cX5_trapped 64 = .ok (.aload_n 0, 1) := by decide +kernel
theorem dX5_trapped_65 : decode cX5_trapped 65 = .ok (.getfield 33, 3) := by decide +kernel
theorem dX5_trapped_68 : decode cX5_trapped 68 = .ok (.getfield 221, 3) := by decide +kernel
theorem dX5_trapped_71 : decode cX5_trapped 71 = .ok (.ireturn, 1) := by decide +kernel
theorem dX5_way_0 : decode cX5_way 0 = .ok (.aload_n 0, 1) := by decide +kernel
theorem dX5_way_1 : decode cX5_way 1 = .ok (.getfield 19, 3) := by decide +kernel
theorem dX5_way_4 : decode cX5_way 4 = .ok (.iload_n 1, 1) := by decide +kernel
theorem dX5_way_5 : decode cX5_way 5 = .ok (.invokevirtual 146, 3) := by decide +kernel
theorem dX5_way_8 : decode cX5_way 8 = .ok (.ifCond .ne 13, 3) := by decide +kernel
theorem dX5_way_11 : decode cX5_way 11 = .ok (.new 81, 3) := by decide +kernel
theorem dX5_way_14 : decode cX5_way 14 = .ok (.dup, 1) := by decide +kernel
theorem dX5_way_15 : decode cX5_way 15 = .ok (.ldc 149, 2) := by decide +kernel
theorem dX5_way_17 : decode cX5_way 17 = .ok (.invokespecial 85, 3) := by decide +kernel
theorem dX5_way_20 : decode cX5_way 20 = .ok (.athrow, 1) := by decide +kernel
theorem dX5_way_21 : decode cX5_way 21 = .ok (.iload_n 2, 1) := by decide +kernel
theorem dX5_way_22 : decode cX5_way 22 = .ok (.iconst 0, 1) := by decide +kernel
theorem dX5_way_23 : decode cX5_way 23 = .ok (.sipush 400, 3) := by decide +kernel
theorem dX5_way_26 : decode cX5_way 26 = .ok (.invokestatic 37, 3) := by decide +kernel
theorem dX5_way_29 : decode cX5_way 29 = .ok (.ifCond .ne 13, 3) := by decide +kernel
theorem dX5_way_32 : decode cX5_way 32 = .ok (.new 81, 3) := by decide +kernel
theorem dX5_way_35 : decode cX5_way 35 = .ok (.dup, 1) := by decide +kernel
theorem dX5_way_36 : decode cX5_way 36 = .ok (.ldc 224, 2) := by decide +kernel
theorem dX5_way_38 : decode cX5_way 38 = .ok (.invokespecial 85, 3) := by decide +kernel
theorem dX5_way_41 : decode cX5_way 41 = .ok (.athrow, 1) := by decide +kernel
theorem dX5_way_42 : decode cX5_way 42 = .ok (.iload_n 3, 1) := by decide +kernel
theorem dX5_way_43 : decode cX5_way 43 = .ok (.iconst 0, 1) := by decide +kernel
theorem dX5_way_44 : decode cX5_way 44 = .ok (.iconst 1, 1) := by decide +kernel
theorem dX5_way_45 : decode cX5_way 45 = .ok (.invokestatic 37, 3) := by decide +kernel
theorem dX5_way_48 : decode cX5_way 48 = .ok (.ifCond .ne 13, 3) := by decide +kernel
theorem dX5_way_51 : decode cX5_way 51 = .ok (.new 81, 3) := by decide +kernel
theorem dX5_way_54 : decode cX5_way 54 = .ok (.dup, 1) := by decide +kernel
theorem dX5_way_55 : decode cX5_way 55 = .ok (.ldc 226, 2) := by decide +kernel
theorem dX5_way_57 : decode cX5_way 57 = .ok (.invokespecial 85, 3) := by decide +kernel
theorem dX5_way_60 : decode cX5_way 60 = .ok (.athrow, 1) := by decide +kernel
theorem dX5_way_61 : decode cX5_way 61 = .ok (.iload_n 2, 1) := by decide +kernel
theorem dX5_way_62 : decode cX5_way 62 = .ok (.aload_n 0, 1) := by decide +kernel
theorem dX5_way_63 : decode cX5_way 63 = .ok (.getfield 19, 3) := by decide +kernel
theorem dX5_way_66 : decode cX5_way 66 = .ok (.iload_n 1, 1) := by decide +kernel
theorem dX5_way_67 : decode cX5_way 67 = .ok (.invokevirtual 154, 3) := by decide +kernel
theorem dX5_way_70 : decode cX5_way 70 = .ok (.if_icmp .lt 5, 3) := by decide +kernel
theorem dX5_way_73 : decode cX5_way 73 = .ok (.iconst (-1), 1) := by decide +kernel
theorem dX5_way_74 : decode cX5_way 74 = .ok (.ireturn, 1) := by decide +kernel
theorem dX5_way_75 : decode cX5_way 75 = .ok (.aload_n 0, 1) := by decide +kernel
theorem dX5_way_76 : decode cX5_way 76 = .ok (.getfield 19, 3) := by decide +kernel
theorem dX5_way_79 : decode cX5_way 79 = .ok (.iload_n 1, 1) := by decide +kernel
theorem dX5_way_80 : decode cX5_way 80 = .ok (.iload_n 2, 1) := by decide +kernel
theorem dX5_way_81 : decode cX5_way 81 = .ok (.iconst 1, 1) := by decide +kernel
theorem dX5_way_82 : decode cX5_way 82 = .ok (.iadd, 1) := by decide +kernel
theorem dX5_way_83 : decode cX5_way 83 = .ok (.invokevirtual 228, 3) := by decide +kernel
theorem dX5_way_86 : decode cX5_way 86 = .ok (.istore 4, 2) := by decide +kernel
theorem dX5_way_88 : decode cX5_way 88 = .ok (.iload_n 3, 1) := by decide +kernel
theorem dX5_way_89 : decode cX5_way 89 = .ok (.ifCond .ne 15, 3) := by decide +kernel
theorem dX5_way_92 : decode cX5_way 92 = .ok (.aload_n 0, 1) := by decide +kernel
theorem dX5_way_93 : decode cX5_way 93 = .ok (.getfield 19, 3) := by decide +kernel
theorem dX5_way_96 : decode cX5_way 96 = .ok (.iload 4, 2) := by decide +kernel
theorem dX5_way_98 : decode cX5_way 98 = .ok (.invokevirtual 231, 3) := by decide +kernel
theorem dX5_way_101 : decode cX5_way 101 = .ok (.goto 12, 3) := by decide +kernel
theorem dX5_way_104 : decode cX5_way 104 = .ok (.aload_n 0, 1) := by decide +kernel
theorem dX5_way_105 : decode cX5_way 105 = .ok (.getfield 19, 3) := by decide +kernel
theorem dX5_way_108 : decode cX5_way 108 = .ok (.iload 4, 2) := by decide +kernel
theorem dX5_way_110 : decode cX5_way 110 = .ok (.invokevirtual 234, 3) := by decide +kernel
theorem dX5_way_113 : decode cX5_way 113 = .ok (.ireturn, 1) := by decide +kernel
theorem dX5_branching_0 : decode cX5_branching 0 = .ok (.aload_n 0, 1) := by decide +kernel
theorem dX5_branching_1 : decode cX5_branching 1 = .ok (.getfield 19, 3) := by decide +kernel
theorem dX5_branching_4 : decode cX5_branching 4 = .ok (.invokevirtual 199, 3) := by decide +kernel
theorem dX5_branching_7 : decode cX5_branching 7 = .ok (.ifCond .ne 5, 3) := by decide +kernel
theorem dX5_branching_10 : decode cX5_branching 10 = .ok (.dconst 0, 1) := by decide +kernel
theorem dX5_branching_11 : decode cX5_branching 11 = .ok (.dreturn, 1) := by decide +kernel
theorem dX5_branching_12 : decode cX5_branching 12 = .ok (.aload_n 0, 1) := by decide +kernel
theorem dX5_branching_13 : decode cX5_branching 13 = .ok (.getfield 19, 3) := by decide +kernel
theorem dX5_branching_16 : decode cX5_branching 16 = .ok (.getfield 237, 3) := by decide +kernel
theorem dX5_branching_19 : decode cX5_branching 19 = .ok (.i2d, 1) := by decide +kernel
theorem dX5_branching_20 : decode cX5_branching 20 = .ok (.aload_n 0, 1) := by decide +kernel
theorem dX5_branching_21 : decode cX5_branching 21 = .ok (.getfield 19, 3) := by decide +kernel
theorem dX5_branching_24 : decode cX5_branching 24 = .ok (.getfield 211, 3) := by decide +kernel
theorem dX5_branching_27 : decode cX5_branching 27 = .ok (.i2d, 1) := by decide +kernel
theorem dX5_branching_28 : decode cX5_branching 28 = .ok (.ddiv, 1) := by decide +kernel
theorem dX5_branching_29 : decode cX5_branching 29 = .ok (.dreturn, 1) := by decide +kernel
theorem dX5_digest_0 : decode cX5_digest 0 = .ok (.ldc2_w 240, 3) := by decide +kernel
theorem dX5_digest_3 : decode cX5_digest 3 = .ok (.lstore_n 1, 1) := by decide +kernel
theorem dX5_digest_4 : decode cX5_digest 4 = .ok (.iconst 0, 1) := by decide +kernel
theorem dX5_digest_5 : decode cX5_digest 5 = .ok (.istore_n 3, 1) := by decide +kernel
theorem dX5_digest_6 : decode cX5_digest 6 = .ok (.iload_n 3, 1) := by decide +kernel
theorem dX5_digest_7 : decode cX5_digest 7 = .ok (.bipush 6, 2) := by decide +kernel
theorem dX5_digest_9 : decode cX5_digest 9 = .ok (.if_icmp .ge 19, 3) := by decide +kernel
theorem dX5_digest_12 : decode cX5_digest 12 = .ok (.lload_n 1, 1) := by decide +kernel
theorem dX5_digest_13 : decode cX5_digest 13 = .ok (.aload_n 0, 1) := by decide +kernel
theorem dX5_digest_14 : decode cX5_digest 14 = .ok (.iload_n 3, 1) := by decide +kernel
theorem dX5_digest_15 : decode cX5_digest 15 = .ok (.invokevirtual 136, 3) := by decide +kernel
theorem dX5_digest_18 : decode cX5_digest 18 = .ok (.invokestatic 242, 3) := by decide +kernel
theorem dX5_digest_21 : decode cX5_digest 21 = .ok (.lstore_n 1, 1) := by decide +kernel
theorem dX5_digest_22 : decode cX5_digest 22 = .ok (.iinc 3 1, 3) := by decide +kernel
theorem dX5_digest_25 : decode cX5_digest 25 = .ok (.goto (-19), 3) := by decide +kernel
theorem dX5_digest_28 : decode cX5_digest 28 = .ok (.iconst 0, 1) := by decide +kernel
theorem dX5_digest_29 : decode cX5_digest 29 = .ok (.istore_n 3, 1) := by decide +kernel
theorem dX5_digest_30 : decode cX5_digest 30 = .ok (.iload_n 3, 1) := by decide +kernel
theorem dX5_digest_31 : decode cX5_digest 31 = .ok (.aload_n 0, 1) := by decide +kernel
theorem dX5_digest_32 : decode cX5_digest 32 = .ok (.getfield 19, 3) := by decide +kernel
theorem dX5_digest_35 : decode cX5_digest 35 = .ok (.getfield 211, 3) := by decide +kernel
theorem dX5_digest_38 : decode cX5_digest 38 = .ok (.if_icmp .ge 16, 3) := by decide +kernel
theorem dX5_digest_41 : decode cX5_digest 41 = .ok (.aload_n 0, 1) := by decide +kernel
theorem dX5_digest_42 : decode cX5_digest 42 = .ok (.lload_n 1, 1) := by decide +kernel
theorem dX5_digest_43 : decode cX5_digest 43 = .ok (.iload_n 3, 1) := by decide +kernel
theorem dX5_digest_44 : decode cX5_digest 44 = .ok (.invokevirtual 246, 3) := by decide +kernel
theorem dX5_digest_47 : decode cX5_digest 47 = .ok (.lstore_n 1, 1) := by decide +kernel
theorem dX5_digest_48 : decode cX5_digest 48 = .ok (.iinc 3 1, 3) := by decide +kernel
theorem dX5_digest_51 : decode cX5_digest 51 = .ok (.goto (-21), 3) := by decide +kernel
theorem dX5_digest_54 : decode cX5_digest 54 = .ok (.aload_n 0, 1) := by decide +kernel
theorem dX5_digest_55 : decode cX5_digest 55 = .ok (.getfield 19, 3) := by decide +kernel
theorem dX5_digest_58 : decode cX5_digest 58 = .ok (.invokevirtual 199, 3) := by decide +kernel
theorem dX5_digest_61 : decode cX5_digest 61 = .ok (.ifCond .eq 32, 3) := by decide +kernel
theorem dX5_digest_64 : decode cX5_digest 64 = .ok (.iconst 0, 1) := by decide +kernel
theorem dX5_digest_65 : decode cX5_digest 65 = .ok (.istore_n 3, 1) := by decide +kernel
theorem dX5_digest_66 : decode cX5_digest 66 = .ok (.iload_n 3, 1) := by decide +kernel
theorem dX5_digest_67 : decode cX5_digest 67 = .ok (.aload_n 0, 1) := by decide +kernel
theorem dX5_digest_68 : decode cX5_digest 68 = .ok (.getfield 26, 3) := by decide +kernel
theorem dX5_digest_71 : decode cX5_digest 71 = .ok (.getfield 183, 3) := by decide +kernel
theorem dX5_digest_74 : decode cX5_digest 74 = .ok (.if_icmp .ge 19, 3) := by decide +kernel
theorem dX5_digest_77 : decode cX5_digest 77 = .ok (.lload_n 1, 1) := by decide +kernel
theorem dX5_digest_78 : decode cX5_digest 78 = .ok (.aload_n 0, 1) := by decide +kernel
theorem dX5_digest_79 : decode cX5_digest 79 = .ok (.iload_n 3, 1) := by decide +kernel
theorem dX5_digest_80 : decode cX5_digest 80 = .ok (.invokevirtual 208, 3) := by decide +kernel
theorem dX5_digest_83 : decode cX5_digest 83 = .ok (.invokestatic 242, 3) := by decide +kernel
theorem dX5_digest_86 : decode cX5_digest 86 = .ok (.lstore_n 1, 1) := by decide +kernel
theorem dX5_digest_87 : decode cX5_digest 87 = .ok (.iinc 3 1, 3) := by decide +kernel
theorem dX5_digest_90 : decode cX5_digest 90 = .ok (.goto (-24), 3) := by decide +kernel
theorem dX5_digest_93 : decode cX5_digest 93 = .ok (.lload_n 1, 1) := by decide +kernel
theorem dX5_digest_94 : decode cX5_digest 94 = .ok (.lreturn, 1) := by decide +kernel
theorem dX5_isBetween_0 : decode cX5_isBetween 0 = .ok (.iload_n 0, 1) := by decide +kernel
theorem dX5_isBetween_1 : decode cX5_isBetween 1 = .ok (.iload_n 1, 1) := by decide +kernel
theorem dX5_isBetween_2 : decode cX5_isBetween 2 = .ok (.if_icmp .lt 12, 3) := by decide +kernel
theorem dX5_isBetween_5 : decode cX5_isBetween 5 = .ok (.iload_n 0, 1) := by decide +kernel
theorem dX5_isBetween_6 : decode cX5_isBetween 6 = .ok (.iload_n 2, 1) := by decide +kernel
theorem dX5_isBetween_7 : decode cX5_isBetween 7 = .ok (.if_icmp .gt 7, 3) := by decide +kernel
theorem dX5_isBetween_10 : decode cX5_isBetween 10 = .ok (.iconst 1, 1) := by decide +kernel
theorem dX5_isBetween_11 : decode cX5_isBetween 11 = .ok (.goto 4, 3) := by decide +kernel
theorem dX5_isBetween_14 : decode cX5_isBetween 14 = .ok (.iconst 0, 1) := by decide +kernel
theorem dX5_isBetween_15 : decode cX5_isBetween 15 = .ok (.ireturn, 1) := by decide +kernel
theorem dX5_amount_0 : decode cX5_amount 0 = .ok (.iload_n 1, 1) := by decide +kernel
theorem dX5_amount_1 : decode cX5_amount 1 = .ok (.tableswitch 75 0 4 #[35, 43, 51, 59, 67], 35) := by decide +kernel
theorem dX5_amount_36 : decode cX5_amount 36 = .ok (.aload_n 0, 1) := by decide +kernel
theorem dX5_amount_37 : decode cX5_amount 37 = .ok (.getfield 12, 3) := by decide +kernel
theorem dX5_amount_40 : decode cX5_amount 40 = .ok (.getfield 48, 3) := by decide +kernel
theorem dX5_amount_43 : decode cX5_amount 43 = .ok (.ireturn, 1) := by decide +kernel
theorem dX5_amount_44 : decode cX5_amount 44 = .ok (.aload_n 0, 1) := by decide +kernel
theorem dX5_amount_45 : decode cX5_amount 45 = .ok (.getfield 12, 3) := by decide +kernel
theorem dX5_amount_48 : decode cX5_amount 48 = .ok (.getfield 68, 3) := by decide +kernel
theorem dX5_amount_51 : decode cX5_amount 51 = .ok (.ireturn, 1) := by decide +kernel
theorem dX5_amount_52 : decode cX5_amount 52 = .ok (.aload_n 0, 1) := by decide +kernel
theorem dX5_amount_53 : decode cX5_amount 53 = .ok (.getfield 12, 3) := by decide +kernel
theorem dX5_amount_56 : decode cX5_amount 56 = .ok (.invokevirtual 249, 3) := by decide +kernel
theorem dX5_amount_59 : decode cX5_amount 59 = .ok (.ireturn, 1) := by decide +kernel
theorem dX5_amount_60 : decode cX5_amount 60 = .ok (.aload_n 0, 1) := by decide +kernel
theorem dX5_amount_61 : decode cX5_amount 61 = .ok (.getfield 26, 3) := by decide +kernel
theorem dX5_amount_64 : decode cX5_amount 64 = .ok (.getfield 183, 3) := by decide +kernel
theorem dX5_amount_67 : decode cX5_amount 67 = .ok (.ireturn, 1) := by decide +kernel
theorem dX5_amount_68 : decode cX5_amount 68 = .ok (.aload_n 0, 1) := by decide +kernel
theorem dX5_amount_69 : decode cX5_amount 69 = .ok (.getfield 19, 3) := by decide +kernel
theorem dX5_amount_72 : decode cX5_amount 72 = .ok (.getfield 211, 3) := by decide +kernel
theorem dX5_amount_75 : decode cX5_amount 75 = .ok (.ireturn, 1) := by decide +kernel
theorem dX5_amount_76 : decode cX5_amount 76 = .ok (.aload_n 0, 1) := by decide +kernel
theorem dX5_amount_77 : decode cX5_amount 77 = .ok (.getfield 19, 3) := by decide +kernel
theorem dX5_amount_80 : decode cX5_amount 80 = .ok (.getfield 237, 3) := by decide +kernel
theorem dX5_amount_83 : decode cX5_amount 83 = .ok (.ireturn, 1) := by decide +kernel
theorem dX5_canBeFact_0 : decode cX5_canBeFact 0 = .ok (.iload_n 1, 1) := by decide +kernel
theorem dX5_canBeFact_1 : decode cX5_canBeFact 1 = .ok (.tableswitch 125 0 5 #[39, 49, 49, 76, 97, 97], 39) := by decide +kernel
theorem dX5_canBeFact_40 : decode cX5_canBeFact 40 = .ok (.aload_n 0, 1) := by decide +kernel
theorem dX5_canBeFact_41 : decode cX5_canBeFact 41 = .ok (.getfield 12, 3) := by decide +kernel
theorem dX5_canBeFact_44 : decode cX5_canBeFact 44 = .ok (.iload_n 2, 1) := by decide +kernel
theorem dX5_canBeFact_45 : decode cX5_canBeFact 45 = .ok (.iload_n 3, 1) := by decide +kernel
theorem dX5_canBeFact_46 : decode cX5_canBeFact 46 = .ok (.invokevirtual 86, 3) := by decide +kernel
theorem dX5_canBeFact_49 : decode cX5_canBeFact 49 = .ok (.ireturn, 1) := by decide +kernel
theorem dX5_canBeFact_50 : decode cX5_canBeFact 50 = .ok (.aload_n 0, 1) := by decide +kernel
theorem dX5_canBeFact_51 : decode cX5_canBeFact 51 = .ok (.getfield 12, 3) := by decide +kernel
theorem dX5_canBeFact_54 : decode cX5_canBeFact 54 = .ok (.iload_n 2, 1) := by decide +kernel
theorem dX5_canBeFact_55 : decode cX5_canBeFact 55 = .ok (.invokevirtual 111, 3) := by decide +kernel
theorem dX5_canBeFact_58 : decode cX5_canBeFact 58 = .ok (.ifCond .eq 17, 3) := by decide +kernel
theorem dX5_canBeFact_61 : decode cX5_canBeFact 61 = .ok (.iload_n 3, 1) := by decide +kernel
theorem dX5_canBeFact_62 : decode cX5_canBeFact 62 = .ok (.iconst 0, 1) := by decide +kernel
theorem dX5_canBeFact_63 : decode cX5_canBeFact 63 = .ok (.bipush 9, 2) := by decide +kernel
theorem dX5_canBeFact_65 : decode cX5_canBeFact 65 = .ok (.invokestatic 37, 3) := by decide +kernel
theorem dX5_canBeFact_68 : decode cX5_canBeFact 68 = .ok (.ifCond .eq 7, 3) := by decide +kernel
theorem dX5_canBeFact_71 : decode cX5_canBeFact 71 = .ok (.iconst 1, 1) := by decide +kernel
theorem dX5_canBeFact_72 : decode cX5_canBeFact 72 = .ok (.goto 4, 3) := by decide +kernel
theorem dX5_canBeFact_75 : decode cX5_canBeFact 75 = .ok (.iconst 0, 1) := by decide +kernel
theorem dX5_canBeFact_76 : decode cX5_canBeFact 76 = .ok (.ireturn, 1) := by decide +kernel
theorem dX5_canBeFact_77 : decode cX5_canBeFact 77 = .ok (.aload_n 0, 1) := by decide +kernel
theorem dX5_canBeFact_78 : decode cX5_canBeFact 78 = .ok (.getfield 26, 3) := by decide +kernel
theorem dX5_canBeFact_81 : decode cX5_canBeFact 81 = .ok (.iload_n 2, 1) := by decide +kernel
theorem dX5_canBeFact_82 : decode cX5_canBeFact 82 = .ok (.invokevirtual 191, 3) := by decide +kernel
theorem dX5_canBeFact_85 : decode cX5_canBeFact 85 = .ok (.ifCond .eq 11, 3) := by decide +kernel
theorem dX5_canBeFact_88 : decode cX5_canBeFact 88 = .ok (.iload_n 3, 1) := by decide +kernel
theorem dX5_canBeFact_89 : decode cX5_canBeFact 89 = .ok (.ifCond .ne 7, 3) := by decide +kernel
theorem dX5_canBeFact_92 : decode cX5_canBeFact 92 = .ok (.iconst 1, 1) := by decide +kernel
theorem dX5_canBeFact_93 : decode cX5_canBeFact 93 = .ok (.goto 4, 3) := by decide +kernel
theorem dX5_canBeFact_96 : decode cX5_canBeFact 96 = .ok (.iconst 0, 1) := by decide +kernel
theorem dX5_canBeFact_97 : decode cX5_canBeFact 97 = .ok (.ireturn, 1) := by decide +kernel
theorem dX5_canBeFact_98 : decode cX5_canBeFact 98 = .ok (.aload_n 0, 1) := by decide +kernel
theorem dX5_canBeFact_99 : decode cX5_canBeFact 99 = .ok (.getfield 26, 3) := by decide +kernel
theorem dX5_canBeFact_102 : decode cX5_canBeFact 102 = .ok (.iload_n 2, 1) := by decide +kernel
theorem dX5_canBeFact_103 : decode cX5_canBeFact 103 = .ok (.invokevirtual 191, 3) := by decide +kernel
theorem dX5_canBeFact_106 : decode cX5_canBeFact 106 = .ok (.ifCond .eq 18, 3) := by decide +kernel
theorem dX5_canBeFact_109 : decode cX5_canBeFact 109 = .ok (.aload_n 0, 1) := by decide +kernel
theorem dX5_canBeFact_110 : decode cX5_canBeFact 110 = .ok (.getfield 26, 3) := by decide +kernel
theorem dX5_canBeFact_113 : decode cX5_canBeFact 113 = .ok (.iload_n 3, 1) := by decide +kernel
theorem dX5_canBeFact_114 : decode cX5_canBeFact 114 = .ok (.invokevirtual 191, 3) := by decide +kernel
theorem dX5_canBeFact_117 : decode cX5_canBeFact 117 = .ok (.ifCond .eq 7, 3) := by decide +kernel
theorem dX5_canBeFact_120 : decode cX5_canBeFact 120 = .ok (.iconst 1, 1) := by decide +kernel
theorem dX5_canBeFact_121 : decode cX5_canBeFact 121 = .ok (.goto 4, 3) := by decide +kernel
theorem dX5_canBeFact_124 : decode cX5_canBeFact 124 = .ok (.iconst 0, 1) := by decide +kernel
theorem dX5_canBeFact_125 : decode cX5_canBeFact 125 = .ok (.ireturn, 1) := by decide +kernel
theorem dX5_canBeFact_126 : decode cX5_canBeFact 126 = .ok (.iconst 0, 1) := by decide +kernel
theorem dX5_canBeFact_127 : decode cX5_canBeFact 127 = .ok (.ireturn, 1) := by decide +kernel
theorem dX5_firstStateWith_0 : decode cX5_firstStateWith 0 = .ok (.iconst 0, 1) := by decide +kernel
theorem dX5_firstStateWith_1 : decode cX5_firstStateWith 1 = .ok (.istore_n 2, 1) := by decide +kernel
theorem dX5_firstStateWith_2 : decode cX5_firstStateWith 2 = .ok (.iload_n 2, 1) := by decide +kernel
theorem dX5_firstStateWith_3 : decode cX5_firstStateWith 3 = .ok (.aload_n 0, 1) := by decide +kernel
theorem dX5_firstStateWith_4 : decode cX5_firstStateWith 4 = .ok (.getfield 19, 3) := by decide +kernel
theorem dX5_firstStateWith_7 : decode cX5_firstStateWith 7 = .ok (.getfield 211, 3) := by decide +kernel
theorem dX5_firstStateWith_10 : decode cX5_firstStateWith 10 = .ok (.if_icmp .ge 30, 3) := by decide +kernel
theorem dX5_firstStateWith_13 : decode cX5_firstStateWith 13 = .ok (.aload_n 0, 1) := by decide +kernel
theorem dX5_firstStateWith_14 : decode cX5_firstStateWith 14 = .ok (.getfield 26, 3) := by decide +kernel
theorem dX5_firstStateWith_17 : decode cX5_firstStateWith 17 = .ok (.iload_n 1, 1) := by decide +kernel
theorem dX5_firstStateWith_18 : decode cX5_firstStateWith 18 = .ok (.aload_n 0, 1) := by decide +kernel
theorem dX5_firstStateWith_19 : decode cX5_firstStateWith 19 = .ok (.getfield 19, 3) := by decide +kernel
theorem dX5_firstStateWith_22 : decode cX5_firstStateWith 22 = .ok (.iload_n 2, 1) := by decide +kernel
theorem dX5_firstStateWith_23 : decode cX5_firstStateWith 23 = .ok (.invokevirtual 157, 3) := by decide +kernel
theorem dX5_firstStateWith_26 : decode cX5_firstStateWith 26 = .ok (.invokevirtual 196, 3) := by decide +kernel
theorem dX5_firstStateWith_29 : decode cX5_firstStateWith 29 = .ok (.ifCond .eq 5, 3) := by decide +kernel
theorem dX5_firstStateWith_32 : decode cX5_firstStateWith 32 = .ok (.iload_n 2, 1) := by decide +kernel
theorem dX5_firstStateWith_33 : decode cX5_firstStateWith 33 = .ok (.ireturn, 1) := by decide +kernel
theorem dX5_firstStateWith_34 : decode cX5_firstStateWith 34 = .ok (.iinc 2 1, 3) := by decide +kernel
theorem dX5_firstStateWith_37 : decode cX5_firstStateWith 37 = .ok (.goto (-35), 3) := by decide +kernel
theorem dX5_firstStateWith_40 : decode cX5_firstStateWith 40 = .ok (.iconst (-1), 1) := by decide +kernel
theorem dX5_firstStateWith_41 : decode cX5_firstStateWith 41 = .ok (.ireturn, 1) := by decide +kernel
theorem dX5_statesWith_0 : decode cX5_statesWith 0 = .ok (.iconst 0, 1) := by decide +kernel
theorem dX5_statesWith_1 : decode cX5_statesWith 1 = .ok (.istore_n 2, 1) := by decide +kernel
theorem dX5_statesWith_2 : decode cX5_statesWith 2 = .ok (.iconst 0, 1) := by decide +kernel
theorem dX5_statesWith_3 : decode cX5_statesWith 3 = .ok (.istore_n 3, 1) := by decide +kernel
theorem dX5_statesWith_4 : decode cX5_statesWith 4 = .ok (.iload_n 3, 1) := by decide +kernel
theorem dX5_statesWith_5 : decode cX5_statesWith 5 = .ok (.aload_n 0, 1) := by decide +kernel
theorem dX5_statesWith_6 : decode cX5_statesWith 6 = .ok (.getfield 19, 3) := by decide +kernel
theorem dX5_statesWith_9 : decode cX5_statesWith 9 = .ok (.getfield 211, 3) := by decide +kernel
theorem dX5_statesWith_12 : decode cX5_statesWith 12 = .ok (.if_icmp .ge 31, 3) := by decide +kernel
theorem dX5_statesWith_15 : decode cX5_statesWith 15 = .ok (.aload_n 0, 1) := by decide +kernel
theorem dX5_statesWith_16 : decode cX5_statesWith 16 = .ok (.getfield 26, 3) := by decide +kernel
theorem dX5_statesWith_19 : decode cX5_statesWith 19 = .ok (.iload_n 1, 1) := by decide +kernel
theorem dX5_statesWith_20 : decode cX5_statesWith 20 = .ok (.aload_n 0, 1) := by decide +kernel
theorem dX5_statesWith_21 : decode cX5_statesWith 21 = .ok (.getfield 19, 3) := by decide +kernel
theorem dX5_statesWith_24 : decode cX5_statesWith 24 = .ok (.iload_n 3, 1) := by decide +kernel
theorem dX5_statesWith_25 : decode cX5_statesWith 25 = .ok (.invokevirtual 157, 3) := by decide +kernel
theorem dX5_statesWith_28 : decode cX5_statesWith 28 = .ok (.invokevirtual 196, 3) := by decide +kernel
theorem dX5_statesWith_31 : decode cX5_statesWith 31 = .ok (.ifCond .eq 6, 3) := by decide +kernel
theorem dX5_statesWith_34 : decode cX5_statesWith 34 = .ok (.iinc 2 1, 3) := by decide +kernel
theorem dX5_statesWith_37 : decode cX5_statesWith 37 = .ok (.iinc 3 1, 3) := by decide +kernel
theorem dX5_statesWith_40 : decode cX5_statesWith 40 = .ok (.goto (-36), 3) := by decide +kernel
theorem dX5_statesWith_43 : decode cX5_statesWith 43 = .ok (.iload_n 2, 1) := by decide +kernel
theorem dX5_statesWith_44 : decode cX5_statesWith 44 = .ok (.ireturn, 1) := by decide +kernel
theorem dX5_mixedWithState_0 : decode cX5_mixedWithState 0 = .ok (.lload_n 1, 1) := by decide +kernel
theorem dX5_mixedWithState_1 : decode cX5_mixedWithState 1 = .ok (.lstore 4, 2) := by decide +kernel
theorem dX5_mixedWithState_3 : decode cX5_mixedWithState 3 = .ok (.aload_n 0, 1) := by decide +kernel
theorem dX5_mixedWithState_4 : decode cX5_mixedWithState 4 = .ok (.getfield 19, 3) := by decide +kernel
theorem dX5_mixedWithState_7 : decode cX5_mixedWithState 7 = .ok (.iload_n 3, 1) := by decide +kernel
theorem dX5_mixedWithState_8 : decode cX5_mixedWithState 8 = .ok (.invokevirtual 157, 3) := by decide +kernel
theorem dX5_mixedWithState_11 : decode cX5_mixedWithState 11 = .ok (.istore 6, 2) := by decide +kernel
theorem dX5_mixedWithState_13 : decode cX5_mixedWithState 13 = .ok (.iconst 0, 1) := by decide +kernel
theorem dX5_mixedWithState_14 : decode cX5_mixedWithState 14 = .ok (.istore 7, 2) := by decide +kernel
theorem dX5_mixedWithState_16 : decode cX5_mixedWithState 16 = .ok (.iload 7, 2) := by decide +kernel
theorem dX5_mixedWithState_18 : decode cX5_mixedWithState 18 = .ok (.aload_n 0, 1) := by decide +kernel
theorem dX5_mixedWithState_19 : decode cX5_mixedWithState 19 = .ok (.getfield 12, 3) := by decide +kernel
theorem dX5_mixedWithState_22 : decode cX5_mixedWithState 22 = .ok (.getfield 48, 3) := by decide +kernel
theorem dX5_mixedWithState_25 : decode cX5_mixedWithState 25 = .ok (.if_icmp .ge 23, 3) := by decide +kernel
theorem dX5_mixedWithState_28 : decode cX5_mixedWithState 28 = .ok (.lload 4, 2) := by decide +kernel
theorem dX5_mixedWithState_30 : decode cX5_mixedWithState 30 = .ok (.iload 6, 2) := by decide +kernel
theorem dX5_mixedWithState_32 : decode cX5_mixedWithState 32 = .ok (.iload 7, 2) := by decide +kernel
theorem dX5_mixedWithState_34 : decode cX5_mixedWithState 34 = .ok (.invokestatic 160, 3) := by decide +kernel
theorem dX5_mixedWithState_37 : decode cX5_mixedWithState 37 = .ok (.invokestatic 242, 3) := by decide +kernel
theorem dX5_mixedWithState_40 : decode cX5_mixedWithState 40 = .ok (.lstore 4, 2) := by decide +kernel
theorem dX5_mixedWithState_42 : decode cX5_mixedWithState 42 = .ok (.iinc 7 1, 3) := by decide +kernel
theorem dX5_mixedWithState_45 : decode cX5_mixedWithState 45 = .ok (.goto (-29), 3) := by decide +kernel
theorem dX5_mixedWithState_48 : decode cX5_mixedWithState 48 = .ok (.iconst 0, 1) := by decide +kernel
theorem dX5_mixedWithState_49 : decode cX5_mixedWithState 49 = .ok (.istore 7, 2) := by decide +kernel
theorem dX5_mixedWithState_51 : decode cX5_mixedWithState 51 = .ok (.iload 7, 2) := by decide +kernel
theorem dX5_mixedWithState_53 : decode cX5_mixedWithState 53 = .ok (.aload_n 0, 1) := by decide +kernel
theorem dX5_mixedWithState_54 : decode cX5_mixedWithState 54 = .ok (.getfield 12, 3) := by decide +kernel
theorem dX5_mixedWithState_57 : decode cX5_mixedWithState 57 = .ok (.getfield 68, 3) := by decide +kernel
theorem dX5_mixedWithState_60 : decode cX5_mixedWithState 60 = .ok (.if_icmp .ge 23, 3) := by decide +kernel
theorem dX5_mixedWithState_63 : decode cX5_mixedWithState 63 = .ok (.lload 4, 2) := by decide +kernel
theorem dX5_mixedWithState_65 : decode cX5_mixedWithState 65 = .ok (.iload 6, 2) := by decide +kernel
theorem dX5_mixedWithState_67 : decode cX5_mixedWithState 67 = .ok (.iload 7, 2) := by decide +kernel
theorem dX5_mixedWithState_69 : decode cX5_mixedWithState 69 = .ok (.invokestatic 163, 3) := by decide +kernel
theorem dX5_mixedWithState_72 : decode cX5_mixedWithState 72 = .ok (.invokestatic 242, 3) := by decide +kernel
theorem dX5_mixedWithState_75 : decode cX5_mixedWithState 75 = .ok (.lstore 4, 2) := by decide +kernel
theorem dX5_mixedWithState_77 : decode cX5_mixedWithState 77 = .ok (.iinc 7 1, 3) := by decide +kernel
theorem dX5_mixedWithState_80 : decode cX5_mixedWithState 80 = .ok (.goto (-29), 3) := by decide +kernel
theorem dX5_mixedWithState_83 : decode cX5_mixedWithState 83 = .ok (.aload_n 0, 1) := by decide +kernel
theorem dX5_mixedWithState_84 : decode cX5_mixedWithState 84 = .ok (.getfield 19, 3) := by decide +kernel
theorem dX5_mixedWithState_87 : decode cX5_mixedWithState 87 = .ok (.iload_n 3, 1) := by decide +kernel
theorem dX5_mixedWithState_88 : decode cX5_mixedWithState 88 = .ok (.invokevirtual 151, 3) := by decide +kernel
theorem dX5_mixedWithState_91 : decode cX5_mixedWithState 91 = .ok (.istore 7, 2) := by decide +kernel
theorem dX5_mixedWithState_93 : decode cX5_mixedWithState 93 = .ok (.lload 4, 2) := by decide +kernel
theorem dX5_mixedWithState_95 : decode cX5_mixedWithState 95 = .ok (.iload 7, 2) := by decide +kernel
theorem dX5_mixedWithState_97 : decode cX5_mixedWithState 97 = .ok (.invokestatic 242, 3) := by decide +kernel
theorem dX5_mixedWithState_100 : decode cX5_mixedWithState 100 = .ok (.lstore 4, 2) := by decide +kernel
theorem dX5_mixedWithState_102 : decode cX5_mixedWithState 102 = .ok (.iconst 0, 1) := by decide +kernel
theorem dX5_mixedWithState_103 : decode cX5_mixedWithState 103 = .ok (.istore 8, 2) := by decide +kernel
theorem dX5_mixedWithState_105 : decode cX5_mixedWithState 105 = .ok (.iload 8, 2) := by decide +kernel
theorem dX5_mixedWithState_107 : decode cX5_mixedWithState 107 = .ok (.iload 7, 2) := by decide +kernel
theorem dX5_mixedWithState_109 : decode cX5_mixedWithState 109 = .ok (.if_icmp .ge 50, 3) := by decide +kernel
theorem dX5_mixedWithState_112 : decode cX5_mixedWithState 112 = .ok (.aload_n 0, 1) := by decide +kernel
theorem dX5_mixedWithState_113 : decode cX5_mixedWithState 113 = .ok (.getfield 19, 3) := by decide +kernel
theorem dX5_mixedWithState_116 : decode cX5_mixedWithState 116 = .ok (.iload_n 3, 1) := by decide +kernel
theorem dX5_mixedWithState_117 : decode cX5_mixedWithState 117 = .ok (.iload 8, 2) := by decide +kernel
theorem dX5_mixedWithState_119 : decode cX5_mixedWithState 119 = .ok (.invokevirtual 172, 3) := by decide +kernel
theorem dX5_mixedWithState_122 : decode cX5_mixedWithState 122 = .ok (.istore 9, 2) := by decide +kernel
theorem dX5_mixedWithState_124 : decode cX5_mixedWithState 124 = .ok (.iconst 0, 1) := by decide +kernel
theorem dX5_mixedWithState_125 : decode cX5_mixedWithState 125 = .ok (.istore 10, 2) := by decide +kernel
theorem dX5_mixedWithState_127 : decode cX5_mixedWithState 127 = .ok (.iload 10, 2) := by decide +kernel
theorem dX5_mixedWithState_129 : decode cX5_mixedWithState 129 = .ok (.iconst 5, 1) := by decide +kernel
theorem dX5_mixedWithState_130 : decode cX5_mixedWithState 130 = .ok (.if_icmp .ge 23, 3) := by decide +kernel
theorem dX5_mixedWithState_133 : decode cX5_mixedWithState 133 = .ok (.lload 4, 2) := by decide +kernel
theorem dX5_mixedWithState_135 : decode cX5_mixedWithState 135 = .ok (.iload 9, 2) := by decide +kernel
theorem dX5_mixedWithState_137 : decode cX5_mixedWithState 137 = .ok (.iload 10, 2) := by decide +kernel
theorem dX5_mixedWithState_139 : decode cX5_mixedWithState 139 = .ok (.invokestatic 175, 3) := by decide +kernel
theorem dX5_mixedWithState_142 : decode cX5_mixedWithState 142 = .ok (.invokestatic 242, 3) := by decide +kernel
theorem dX5_mixedWithState_145 : decode cX5_mixedWithState 145 = .ok (.lstore 4, 2) := by decide +kernel
theorem dX5_mixedWithState_147 : decode cX5_mixedWithState 147 = .ok (.iinc 10 1, 3) := by decide +kernel
theorem dX5_mixedWithState_150 : decode cX5_mixedWithState 150 = .ok (.goto (-23), 3) := by decide +kernel
theorem dX5_mixedWithState_153 : decode cX5_mixedWithState 153 = .ok (.iinc 8 1, 3) := by decide +kernel
theorem dX5_mixedWithState_156 : decode cX5_mixedWithState 156 = .ok (.goto (-51), 3) := by decide +kernel
theorem dX5_mixedWithState_159 : decode cX5_mixedWithState 159 = .ok (.lload 4, 2) := by decide +kernel
theorem dX5_mixedWithState_161 : decode cX5_mixedWithState 161 = .ok (.lreturn, 1) := by decide +kernel
theorem dX5_mixed_0 : decode cX5_mixed 0 = .ok (.lload_n 0, 1) := by decide +kernel
theorem dX5_mixed_1 : decode cX5_mixed 1 = .ok (.ldc2_w 253, 3) := by decide +kernel
theorem dX5_mixed_4 : decode cX5_mixed 4 = .ok (.lmul, 1) := by decide +kernel
theorem dX5_mixed_5 : decode cX5_mixed 5 = .ok (.iload_n 2, 1) := by decide +kernel
theorem dX5_mixed_6 : decode cX5_mixed 6 = .ok (.i2l, 1) := by decide +kernel
theorem dX5_mixed_7 : decode cX5_mixed 7 = .ok (.ladd, 1) := by decide +kernel
theorem dX5_mixed_8 : decode cX5_mixed 8 = .ok (.lreturn, 1) := by decide +kernel
theorem dX5_locationIn_0 : decode cX5_locationIn 0 = .ok (.iload_n 0, 1) := by decide +kernel
theorem dX5_locationIn_1 : decode cX5_locationIn 1 = .ok (.iconst 3, 1) := by decide +kernel
theorem dX5_locationIn_2 : decode cX5_locationIn 2 = .ok (.iload_n 1, 1) := by decide +kernel
theorem dX5_locationIn_3 : decode cX5_locationIn 3 = .ok (.imul, 1) := by decide +kernel
theorem dX5_locationIn_4 : decode cX5_locationIn 4 = .ok (.iushr, 1) := by decide +kernel
theorem dX5_locationIn_5 : decode cX5_locationIn 5 = .ok (.bipush 7, 2) := by decide +kernel
theorem dX5_locationIn_7 : decode cX5_locationIn 7 = .ok (.iand, 1) := by decide +kernel
theorem dX5_locationIn_8 : decode cX5_locationIn 8 = .ok (.ireturn, 1) := by decide +kernel
theorem dX5_withLocation_0 : decode cX5_withLocation 0 = .ok (.iconst 3, 1) := by decide +kernel
theorem dX5_withLocation_1 : decode cX5_withLocation 1 = .ok (.iload_n 1, 1) := by decide +kernel
theorem dX5_withLocation_2 : decode cX5_withLocation 2 = .ok (.imul, 1) := by decide +kernel
theorem dX5_withLocation_3 : decode cX5_withLocation 3 = .ok (.istore_n 3, 1) := by decide +kernel
theorem dX5_withLocation_4 : decode cX5_withLocation 4 = .ok (.iload_n 0, 1) := by decide +kernel
theorem dX5_withLocation_5 : decode cX5_withLocation 5 = .ok (.bipush 7, 2) := by decide +kernel
theorem dX5_withLocation_7 : decode cX5_withLocation 7 = .ok (.iload_n 3, 1) := by decide +kernel
theorem dX5_withLocation_8 : decode cX5_withLocation 8 = .ok (.ishl, 1) := by decide +kernel
theorem dX5_withLocation_9 : decode cX5_withLocation 9 = .ok (.iconst (-1), 1) := by decide +kernel
theorem dX5_withLocation_10 : decode cX5_withLocation 10 = .ok (.ixor, 1) := by decide +kernel
theorem dX5_withLocation_11 : decode cX5_withLocation 11 = .ok (.iand, 1) := by decide +kernel
theorem dX5_withLocation_12 : decode cX5_withLocation 12 = .ok (.iload_n 2, 1) := by decide +kernel
theorem dX5_withLocation_13 : decode cX5_withLocation 13 = .ok (.iload_n 3, 1) := by decide +kernel
theorem dX5_withLocation_14 : decode cX5_withLocation 14 = .ok (.ishl, 1) := by decide +kernel
theorem dX5_withLocation_15 : decode cX5_withLocation 15 = .ok (.ior, 1) := by decide +kernel
theorem dX5_withLocation_16 : decode cX5_withLocation 16 = .ok (.ireturn, 1) := by decide +kernel
theorem dX5_valueIn_0 : decode cX5_valueIn 0 = .ok (.iload_n 0, 1) := by decide +kernel
theorem dX5_valueIn_1 : decode cX5_valueIn 1 = .ok (.bipush 15, 2) := by decide +kernel
theorem dX5_valueIn_3 : decode cX5_valueIn 3 = .ok (.iconst 4, 1) := by decide +kernel
theorem dX5_valueIn_4 : decode cX5_valueIn 4 = .ok (.iload_n 1, 1) := by decide +kernel
theorem dX5_valueIn_5 : decode cX5_valueIn 5 = .ok (.imul, 1) := by decide +kernel
theorem dX5_valueIn_6 : decode cX5_valueIn 6 = .ok (.iadd, 1) := by decide +kernel
theorem dX5_valueIn_7 : decode cX5_valueIn 7 = .ok (.iushr, 1) := by decide +kernel
theorem dX5_valueIn_8 : decode cX5_valueIn 8 = .ok (.bipush 15, 2) := by decide +kernel
theorem dX5_valueIn_10 : decode cX5_valueIn 10 = .ok (.iand, 1) := by decide +kernel
theorem dX5_valueIn_11 : decode cX5_valueIn 11 = .ok (.ireturn, 1) := by decide +kernel
theorem dX5_withValue_0 : decode cX5_withValue 0 = .ok (.bipush 15, 2) := by decide +kernel
theorem dX5_withValue_2 : decode cX5_withValue 2 = .ok (.iconst 4, 1) := by decide +kernel
theorem dX5_withValue_3 : decode cX5_withValue 3 = .ok (.iload_n 1, 1) := by decide +kernel
theorem dX5_withValue_4 : decode cX5_withValue 4 = .ok (.imul, 1) := by decide +kernel
theorem dX5_withValue_5 : decode cX5_withValue 5 = .ok (.iadd, 1) := by decide +kernel
theorem dX5_withValue_6 : decode cX5_withValue 6 = .ok (.istore_n 3, 1) := by decide +kernel
theorem dX5_withValue_7 : decode cX5_withValue 7 = .ok (.iload_n 0, 1) := by decide +kernel
theorem dX5_withValue_8 : decode cX5_withValue 8 = .ok (.bipush 15, 2) := by decide +kernel
theorem dX5_withValue_10 : decode cX5_withValue 10 = .ok (.iload_n 3, 1) := by decide +kernel
theorem dX5_withValue_11 : decode cX5_withValue 11 = .ok (.ishl, 1) := by decide +kernel
theorem dX5_withValue_12 : decode cX5_withValue 12 = .ok (.iconst (-1), 1) := by decide +kernel
theorem dX5_withValue_13 : decode cX5_withValue 13 = .ok (.ixor, 1) := by decide +kernel
theorem dX5_withValue_14 : decode cX5_withValue 14 = .ok (.iand, 1) := by decide +kernel
theorem dX5_withValue_15 : decode cX5_withValue 15 = .ok (.iload_n 2, 1) := by decide +kernel
theorem dX5_withValue_16 : decode cX5_withValue 16 = .ok (.iload_n 3, 1) := by decide +kernel
theorem dX5_withValue_17 : decode cX5_withValue 17 = .ok (.ishl, 1) := by decide +kernel
theorem dX5_withValue_18 : decode cX5_withValue 18 = .ok (.ior, 1) := by decide +kernel
theorem dX5_withValue_19 : decode cX5_withValue 19 = .ok (.ireturn, 1) := by decide +kernel
theorem dX6_init_0 : decode cX6_init 0 = .ok (.aload_n 0, 1) := by decide +kernel
theorem dX6_init_1 : decode cX6_init 1 = .ok (.invokespecial 1, 3) := by decide +kernel
theorem dX6_init_4 : decode cX6_init 4 = .ok (.aload_n 0, 1) := by decide +kernel
theorem dX6_init_5 : decode cX6_init 5 = .ok (.iconst 5, 1) := by decide +kernel
theorem dX6_init_6 : decode cX6_init 6 = .ok (.newarray .int, 2) := by decide +kernel
theorem dX6_init_8 : decode cX6_init 8 = .ok (.putfield 9, 3) := by decide +kernel
theorem dX6_init_11 : decode cX6_init 11 = .ok (.aload_n 0, 1) := by decide +kernel
theorem dX6_init_12 : decode cX6_init 12 = .ok (.iconst 4, 1) := by decide +kernel
theorem dX6_init_13 : decode cX6_init 13 = .ok (.newarray .int, 2) := by decide +kernel
theorem dX6_init_15 : decode cX6_init 15 = .ok (.putfield 13, 3) := by decide +kernel
theorem dX6_init_18 : decode cX6_init 18 = .ok (.aload_n 0, 1) := by decide +kernel
theorem dX6_init_19 : decode cX6_init 19 = .ok (.iconst 4, 1) := by decide +kernel
theorem dX6_init_20 : decode cX6_init 20 = .ok (.newarray .int, 2) := by decide +kernel
theorem dX6_init_22 : decode cX6_init 22 = .ok (.putfield 16, 3) := by decide +kernel
theorem dX6_init_25 : decode cX6_init 25 = .ok (.aload_n 0, 1) := by decide +kernel
theorem dX6_init_26 : decode cX6_init 26 = .ok (.iconst 5, 1) := by decide +kernel
theorem dX6_init_27 : decode cX6_init 27 = .ok (.newarray .int, 2) := by decide +kernel
theorem dX6_init_29 : decode cX6_init 29 = .ok (.putfield 19, 3) := by decide +kernel
theorem dX6_init_32 : decode cX6_init 32 = .ok (.aload_n 0, 1) := by decide +kernel
theorem dX6_init_33 : decode cX6_init 33 = .ok (.sipush 720, 3) := by decide +kernel
theorem dX6_init_36 : decode cX6_init 36 = .ok (.newarray .int, 2) := by decide +kernel
theorem dX6_init_38 : decode cX6_init 38 = .ok (.putfield 22, 3) := by decide +kernel
theorem dX6_init_41 : decode cX6_init 41 = .ok (.aload_n 0, 1) := by decide +kernel
theorem dX6_init_42 : decode cX6_init 42 = .ok (.bipush 36, 2) := by decide +kernel
theorem dX6_init_44 : decode cX6_init 44 = .ok (.newarray .int, 2) := by decide +kernel
theorem dX6_init_46 : decode cX6_init 46 = .ok (.putfield 25, 3) := by decide +kernel
theorem dX6_init_49 : decode cX6_init 49 = .ok (.aload_n 0, 1) := by decide +kernel
theorem dX6_init_50 : decode cX6_init 50 = .ok (.sipush 400, 3) := by decide +kernel
theorem dX6_init_53 : decode cX6_init 53 = .ok (.newarray .int, 2) := by decide +kernel
theorem dX6_init_55 : decode cX6_init 55 = .ok (.putfield 28, 3) := by decide +kernel
theorem dX6_init_58 : decode cX6_init 58 = .ok (.aload_n 0, 1) := by decide +kernel
theorem dX6_init_59 : decode cX6_init 59 = .ok (.sipush 1024, 3) := by decide +kernel
theorem dX6_init_62 : decode cX6_init 62 = .ok (.newarray .int, 2) := by decide +kernel
theorem dX6_init_64 : decode cX6_init 64 = .ok (.putfield 31, 3) := by decide +kernel
theorem dX6_init_67 : decode cX6_init 67 = .ok (.aload_n 0, 1) := by decide +kernel
theorem dX6_init_68 : decode cX6_init 68 = .ok (.sipush 400, 3) := by decide +kernel
theorem dX6_init_71 : decode cX6_init 71 = .ok (.newarray .int, 2) := by decide +kernel
theorem dX6_init_73 : decode cX6_init 73 = .ok (.putfield 34, 3) := by decide +kernel
theorem dX6_init_76 : decode cX6_init 76 = .ok (.aload_n 0, 1) := by decide +kernel
theorem dX6_init_77 : decode cX6_init 77 = .ok (.sipush 400, 3) := by decide +kernel
theorem dX6_init_80 : decode cX6_init 80 = .ok (.newarray .int, 2) := by decide +kernel
theorem dX6_init_82 : decode cX6_init 82 = .ok (.putfield 37, 3) := by decide +kernel
theorem dX6_init_85 : decode cX6_init 85 = .ok (.aload_n 0, 1) := by decide +kernel
theorem dX6_init_86 : decode cX6_init 86 = .ok (.sipush 400, 3) := by decide +kernel
theorem dX6_init_89 : decode cX6_init 89 = .ok (.newarray .int, 2) := by decide +kernel
theorem dX6_init_91 : decode cX6_init 91 = .ok (.putfield 40, 3) := by decide +kernel
theorem dX6_init_94 : decode cX6_init 94 = .ok (.aload_n 0, 1) := by decide +kernel
theorem dX6_init_95 : decode cX6_init 95 = .ok (.sipush 400, 3) := by decide +kernel
theorem dX6_init_98 : decode cX6_init 98 = .ok (.newarray .int, 2) := by decide +kernel
theorem dX6_init_100 : decode cX6_init 100 = .ok (.putfield 43, 3) := by decide +kernel
theorem dX6_init_103 : decode cX6_init 103 = .ok (.aload_n 0, 1) := by decide +kernel
theorem dX6_init_104 : decode cX6_init 104 = .ok (.iconst 5, 1) := by decide +kernel
theorem dX6_init_105 : decode cX6_init 105 = .ok (.sipush 2800, 3) := by decide +kernel
theorem dX6_init_108 : decode cX6_init 108 = .ok (.multianewarray 46 2, 4) := by decide +kernel
theorem dX6_init_112 : decode cX6_init 112 = .ok (.putfield 48, 3) := by decide +kernel
theorem dX6_init_115 : decode cX6_init 115 = .ok (.aload_n 0, 1) := by decide +kernel
theorem dX6_init_116 : decode cX6_init 116 = .ok (.sipush 15000, 3) := by decide +kernel
theorem dX6_init_119 : decode cX6_init 119 = .ok (.newarray .int, 2) := by decide +kernel
theorem dX6_init_121 : decode cX6_init 121 = .ok (.putfield 51, 3) := by decide +kernel
theorem dX6_init_124 : decode cX6_init 124 = .ok (.aload_n 0, 1) := by decide +kernel
theorem dX6_init_125 : decode cX6_init 125 = .ok (.sipush 2800, 3) := by decide +kernel
theorem dX6_init_128 : decode cX6_init 128 = .ok (.newarray .long, 2) := by decide +kernel
theorem dX6_init_130 : decode cX6_init 130 = .ok (.putfield 54, 3) := by decide +kernel
theorem dX6_init_133 : decode cX6_init 133 = .ok (.aload_n 0, 1) := by decide +kernel
theorem dX6_init_134 : decode cX6_init 134 = .ok (.bipush 7, 2) := by decide +kernel
theorem dX6_init_136 : decode cX6_init 136 = .ok (.newarray .long, 2) := by decide +kernel
theorem dX6_init_138 : decode cX6_init 138 = .ok (.putfield 58, 3) := by decide +kernel
theorem dX6_init_141 : decode cX6_init 141 = .ok (.aload_n 0, 1) := by decide +kernel
theorem dX6_init_142 : decode cX6_init 142 = .ok (.sipush 400, 3) := by decide +kernel
theorem dX6_init_145 : decode cX6_init 145 = .ok (.newarray .boolean, 2) := by decide +kernel
theorem dX6_init_147 : decode cX6_init 147 = .ok (.putfield 61, 3) := by decide +kernel
theorem dX6_init_150 : decode cX6_init 150 = .ok (.return_, 1) := by decide +kernel
theorem dX6_thrown_0 : decode cX6_thrown 0 = .ok (.aload_n 0, 1) := by decide +kernel
theorem dX6_thrown_1 : decode cX6_thrown 1 = .ok (.getfield 65, 3) := by decide +kernel
theorem dX6_thrown_4 : decode cX6_thrown 4 = .ok (.ireturn, 1) := by decide +kernel
theorem dX6_fail_0 : decode cX6_fail 0 = .ok (.aload_n 0, 1) := by decide +kernel
theorem dX6_fail_1 : decode cX6_fail 1 = .ok (.iload_n 1, 1) := by decide +kernel
theorem dX6_fail_2 : decode cX6_fail 2 = .ok (.putfield 65, 3) := by decide +kernel
theorem dX6_fail_5 : decode cX6_fail 5 = .ok (.iconst 0, 1) := by decide +kernel
theorem dX6_fail_6 : decode cX6_fail 6 = .ok (.ireturn, 1) := by decide +kernel
theorem dX6_isIn_0 : decode cX6_isIn 0 = .ok (.iload_n 0, 1) := by decide +kernel
theorem dX6_isIn_1 : decode cX6_isIn 1 = .ok (.iload_n 1, 1) := by decide +kernel
theorem dX6_isIn_2 : decode cX6_isIn 2 = .ok (.if_icmp .lt 12, 3) := by decide +kernel
theorem dX6_isIn_5 : decode cX6_isIn 5 = .ok (.iload_n 0, 1) := by decide +kernel
theorem dX6_isIn_6 : decode cX6_isIn 6 = .ok (.iload_n 2, 1) := by decide +kernel
theorem dX6_isIn_7 : decode cX6_isIn 7 = .ok (.if_icmp .gt 7, 3) := by decide +kernel
theorem dX6_isIn_10 : decode cX6_isIn 10 = .ok (.iconst 1, 1) := by decide +kernel
theorem dX6_isIn_11 : decode cX6_isIn 11 = .ok (.goto 4, 3) := by decide +kernel
theorem dX6_isIn_14 : decode cX6_isIn 14 = .ok (.iconst 0, 1) := by decide +kernel
theorem dX6_isIn_15 : decode cX6_isIn 15 = .ok (.ireturn, 1) := by decide +kernel
theorem dX6_isProcess_0 : decode cX6_isProcess 0 = .ok (.iload_n 1, 1) := by decide +kernel
theorem dX6_isProcess_1 : decode cX6_isProcess 1 = .ok (.iconst 0, 1) := by decide +kernel
theorem dX6_isProcess_2 : decode cX6_isProcess 2 = .ok (.aload_n 0, 1) := by decide +kernel
theorem dX6_isProcess_3 : decode cX6_isProcess 3 = .ok (.getfield 69, 3) := by decide +kernel
theorem dX6_isProcess_6 : decode cX6_isProcess 6 = .ok (.iconst 1, 1) := by decide +kernel
theorem dX6_isProcess_7 : decode cX6_isProcess 7 = .ok (.isub, 1) := by decide +kernel
theorem dX6_isProcess_8 : decode cX6_isProcess 8 = .ok (.invokestatic 72, 3) := by decide +kernel
theorem dX6_isProcess_11 : decode cX6_isProcess 11 = .ok (.ireturn, 1) := by decide +kernel
theorem dX6_isVariable_0 : decode cX6_isVariable 0 = .ok (.iload_n 1, 1) := by decide +kernel
theorem dX6_isVariable_1 : decode cX6_isVariable 1 = .ok (.iconst 0, 1) := by decide +kernel
theorem dX6_isVariable_2 : decode cX6_isVariable 2 = .ok (.aload_n 0, 1) := by decide +kernel
theorem dX6_isVariable_3 : decode cX6_isVariable 3 = .ok (.getfield 76, 3) := by decide +kernel
theorem dX6_isVariable_6 : decode cX6_isVariable 6 = .ok (.iconst 1, 1) := by decide +kernel
theorem dX6_isVariable_7 : decode cX6_isVariable 7 = .ok (.isub, 1) := by decide +kernel
theorem dX6_isVariable_8 : decode cX6_isVariable 8 = .ok (.invokestatic 72, 3) := by decide +kernel
theorem dX6_isVariable_11 : decode cX6_isVariable 11 = .ok (.ireturn, 1) := by decide +kernel
theorem dX6_isFact_0 : decode cX6_isFact 0 = .ok (.iload_n 1, 1) := by decide +kernel
theorem dX6_isFact_1 : decode cX6_isFact 1 = .ok (.iconst 0, 1) := by decide +kernel
theorem dX6_isFact_2 : decode cX6_isFact 2 = .ok (.aload_n 0, 1) := by decide +kernel
theorem dX6_isFact_3 : decode cX6_isFact 3 = .ok (.getfield 79, 3) := by decide +kernel
theorem dX6_isFact_6 : decode cX6_isFact 6 = .ok (.iconst 1, 1) := by decide +kernel
theorem dX6_isFact_7 : decode cX6_isFact 7 = .ok (.isub, 1) := by decide +kernel
theorem dX6_isFact_8 : decode cX6_isFact 8 = .ok (.invokestatic 72, 3) := by decide +kernel
theorem dX6_isFact_11 : decode cX6_isFact 11 = .ok (.ireturn, 1) := by decide +kernel
theorem dX6_isState_0 : decode cX6_isState 0 = .ok (.iload_n 1, 1) := by decide +kernel
theorem dX6_isState_1 : decode cX6_isState 1 = .ok (.iconst 0, 1) := by decide +kernel
theorem dX6_isState_2 : decode cX6_isState 2 = .ok (.aload_n 0, 1) := by decide +kernel
theorem dX6_isState_3 : decode cX6_isState 3 = .ok (.getfield 82, 3) := by decide +kernel
theorem dX6_isState_6 : decode cX6_isState 6 = .ok (.iconst 1, 1) := by decide +kernel
theorem dX6_isState_7 : decode cX6_isState 7 = .ok (.isub, 1) := by decide +kernel
theorem dX6_isState_8 : decode cX6_isState 8 = .ok (.invokestatic 72, 3) := by decide +kernel
theorem dX6_isState_11 : decode cX6_isState 11 = .ok (.ireturn, 1) := by decide +kernel
theorem dX6_get_0 : decode cX6_get 0 = .ok (.aload_n 0, 1) := by decide +kernel
theorem dX6_get_1 : decode cX6_get 1 = .ok (.getfield 22, 3) := by decide +kernel
theorem dX6_get_4 : decode cX6_get 4 = .ok (.bipush 9, 2) := by decide +kernel
theorem dX6_get_6 : decode cX6_get 6 = .ok (.bipush 16, 2) := by decide +kernel
theorem dX6_get_8 : decode cX6_get 8 = .ok (.iload_n 1, 1) := by decide +kernel
theorem dX6_get_9 : decode cX6_get 9 = .ok (.imul, 1) := by decide +kernel
theorem dX6_get_10 : decode cX6_get 10 = .ok (.iload_n 2, 1) := by decide +kernel
theorem dX6_get_11 : decode cX6_get 11 = .ok (.iadd, 1) := by decide +kernel
theorem dX6_get_12 : decode cX6_get 12 = .ok (.imul, 1) := by decide +kernel
theorem dX6_get_13 : decode cX6_get 13 = .ok (.iload_n 3, 1) := by decide +kernel
theorem dX6_get_14 : decode cX6_get 14 = .ok (.iadd, 1) := by decide +kernel
theorem dX6_get_15 : decode cX6_get 15 = .ok (.iaload, 1) := by decide +kernel
theorem dX6_get_16 : decode cX6_get 16 = .ok (.ireturn, 1) := by decide +kernel
theorem dX6_forget_0 : decode cX6_forget 0 = .ok (.aload_n 0, 1) := by decide +kernel
theorem dX6_forget_1 : decode cX6_forget 1 = .ok (.iconst 0, 1) := by decide +kernel
theorem dX6_forget_2 : decode cX6_forget 2 = .ok (.putfield 82, 3) := by decide +kernel
theorem dX6_forget_5 : decode cX6_forget 5 = .ok (.aload_n 0, 1) := by decide +kernel
theorem dX6_forget_6 : decode cX6_forget 6 = .ok (.iconst 0, 1) := by decide +kernel
theorem dX6_forget_7 : decode cX6_forget 7 = .ok (.putfield 85, 3) := by decide +kernel
theorem dX6_forget_10 : decode cX6_forget 10 = .ok (.return_, 1) := by decide +kernel
theorem dX6_addProcess_0 : decode cX6_addProcess 0 = .ok (.aload_n 0, 1) := by decide +kernel
theorem dX6_addProcess_1 : decode cX6_addProcess 1 = .ok (.iconst 0, 1) := by decide +kernel
theorem dX6_addProcess_2 : decode cX6_addProcess 2 = .ok (.putfield 65, 3) := by decide +kernel
theorem dX6_addProcess_5 : decode cX6_addProcess 5 = .ok (.iload_n 1, 1) := by decide +kernel
theorem dX6_addProcess_6 : decode cX6_addProcess 6 = .ok (.iconst 1, 1) := by decide +kernel
theorem dX6_addProcess_7 : decode cX6_addProcess 7 = .ok (.bipush 8, 2) := by decide +kernel
theorem dX6_addProcess_9 : decode cX6_addProcess 9 = .ok (.invokestatic 72, 3) := by decide +kernel
theorem dX6_addProcess_12 : decode cX6_addProcess 12 = .ok (.ifCond .ne 9, 3) := by decide +kernel
theorem dX6_addProcess_15 : decode cX6_addProcess 15 = .ok (.aload_n 0, 1) := by decide +kernel
theorem dX6_addProcess_16 : decode cX6_addProcess 16 = .ok (.iconst 1, 1) := by decide +kernel
theorem dX6_addProcess_17 : decode cX6_addProcess 17 = .ok (.invokevirtual 88, 3) := by decide +kernel
theorem dX6_addProcess_20 : decode cX6_addProcess 20 = .ok (.ireturn, 1) := by decide +kernel
theorem dX6_addProcess_21 : decode cX6_addProcess 21 = .ok (.aload_n 0, 1) := by decide +kernel
theorem dX6_addProcess_22 : decode cX6_addProcess 22 = .ok (.getfield 69, 3) := by decide +kernel
theorem dX6_addProcess_25 : decode cX6_addProcess 25 = .ok (.iconst 5, 1) := by decide +kernel
theorem dX6_addProcess_26 : decode cX6_addProcess 26 = .ok (.if_icmp .ne 9, 3) := by decide +kernel
theorem dX6_addProcess_29 : decode cX6_addProcess 29 = .ok (.aload_n 0, 1) := by decide +kernel
theorem dX6_addProcess_30 : decode cX6_addProcess 30 = .ok (.iconst 2, 1) := by decide +kernel
theorem dX6_addProcess_31 : decode cX6_addProcess 31 = .ok (.invokevirtual 88, 3) := by decide +kernel
theorem dX6_addProcess_34 : decode cX6_addProcess 34 = .ok (.ireturn, 1) := by decide +kernel
theorem dX6_addProcess_35 : decode cX6_addProcess 35 = .ok (.aload_n 0, 1) := by decide +kernel
theorem dX6_addProcess_36 : decode cX6_addProcess 36 = .ok (.getfield 9, 3) := by decide +kernel
theorem dX6_addProcess_39 : decode cX6_addProcess 39 = .ok (.aload_n 0, 1) := by decide +kernel
theorem dX6_addProcess_40 : decode cX6_addProcess 40 = .ok (.getfield 69, 3) := by decide +kernel
theorem dX6_addProcess_43 : decode cX6_addProcess 43 = .ok (.iload_n 1, 1) := by decide +kernel
theorem dX6_addProcess_44 : decode cX6_addProcess 44 = .ok (.iastore, 1) := by decide +kernel
theorem dX6_addProcess_45 : decode cX6_addProcess 45 = .ok (.aload_n 0, 1) := by decide +kernel
theorem dX6_addProcess_46 : decode cX6_addProcess 46 = .ok (.dup, 1) := by decide +kernel
theorem dX6_addProcess_47 : decode cX6_addProcess 47 = .ok (.getfield 69, 3) := by decide +kernel
theorem dX6_addProcess_50 : decode cX6_addProcess 50 = .ok (.iconst 1, 1) := by decide +kernel
theorem dX6_addProcess_51 : decode cX6_addProcess 51 = .ok (.iadd, 1) := by decide +kernel
theorem dX6_addProcess_52 : decode cX6_addProcess 52 = .ok (.putfield 69, 3) := by decide +kernel
theorem dX6_addProcess_55 : decode cX6_addProcess 55 = .ok (.aload_n 0, 1) := by decide +kernel
theorem dX6_addProcess_56 : decode cX6_addProcess 56 = .ok (.invokevirtual 92, 3) := by decide +kernel
theorem dX6_addProcess_59 : decode cX6_addProcess 59 = .ok (.aload_n 0, 1) := by decide +kernel
theorem dX6_addProcess_60 : decode cX6_addProcess 60 = .ok (.getfield 69, 3) := by decide +kernel
theorem dX6_addProcess_63 : decode cX6_addProcess 63 = .ok (.iconst 1, 1) := by decide +kernel
theorem dX6_addProcess_64 : decode cX6_addProcess 64 = .ok (.isub, 1) := by decide +kernel
theorem dX6_addProcess_65 : decode cX6_addProcess 65 = .ok (.ireturn, 1) := by decide +kernel
theorem dX6_addVariable_0 : decode cX6_addVariable 0 = .ok (.aload_n 0, 1) := by decide +kernel
theorem dX6_addVariable_1 : decode cX6_addVariable 1 = .ok (.iconst 0, 1) := by decide +kernel
theorem dX6_addVariable_2 : decode cX6_addVariable 2 = .ok (.putfield 65, 3) := by decide +kernel
theorem dX6_addVariable_5 : decode cX6_addVariable 5 = .ok (.iload_n 1, 1) := by decide +kernel
theorem dX6_addVariable_6 : decode cX6_addVariable 6 = .ok (.iconst 1, 1) := by decide +kernel
theorem dX6_addVariable_7 : decode cX6_addVariable 7 = .ok (.bipush 9, 2) := by decide +kernel
theorem dX6_addVariable_9 : decode cX6_addVariable 9 = .ok (.invokestatic 72, 3) := by decide +kernel
theorem dX6_addVariable_12 : decode cX6_addVariable 12 = .ok (.ifCond .eq 12, 3) := by decide +kernel
theorem dX6_addVariable_15 : decode cX6_addVariable 15 = .ok (.iload_n 2, 1) := by decide +kernel
theorem dX6_addVariable_16 : decode cX6_addVariable 16 = .ok (.iconst 0, 1) := by decide +kernel
theorem dX6_addVariable_17 : decode cX6_addVariable 17 = .ok (.iload_n 1, 1) := by decide +kernel
theorem dX6_addVariable_18 : decode cX6_addVariable 18 = .ok (.invokestatic 72, 3) := by decide +kernel
theorem dX6_addVariable_21 : decode cX6_addVariable 21 = .ok (.ifCond .ne 9, 3) := by decide +kernel
theorem dX6_addVariable_24 : decode cX6_addVariable 24 = .ok (.aload_n 0, 1) := by decide +kernel
theorem dX6_addVariable_25 : decode cX6_addVariable 25 = .ok (.iconst 1, 1) := by decide +kernel
theorem dX6_addVariable_26 : decode cX6_addVariable 26 = .ok (.invokevirtual 88, 3) := by decide +kernel
theorem dX6_addVariable_29 : decode cX6_addVariable 29 = .ok (.ireturn, 1) := by decide +kernel
theorem dX6_addVariable_30 : decode cX6_addVariable 30 = .ok (.aload_n 0, 1) := by decide +kernel
theorem dX6_addVariable_31 : decode cX6_addVariable 31 = .ok (.getfield 76, 3) := by decide +kernel
theorem dX6_addVariable_34 : decode cX6_addVariable 34 = .ok (.iconst 4, 1) := by decide +kernel
theorem dX6_addVariable_35 : decode cX6_addVariable 35 = .ok (.if_icmp .ne 9, 3) := by decide +kernel
theorem dX6_addVariable_38 : decode cX6_addVariable 38 = .ok (.aload_n 0, 1) := by decide +kernel
theorem dX6_addVariable_39 : decode cX6_addVariable 39 = .ok (.iconst 2, 1) := by decide +kernel
theorem dX6_addVariable_40 : decode cX6_addVariable 40 = .ok (.invokevirtual 88, 3) := by decide +kernel
theorem dX6_addVariable_43 : decode cX6_addVariable 43 = .ok (.ireturn, 1) := by decide +kernel
theorem dX6_addVariable_44 : decode cX6_addVariable 44 = .ok (.aload_n 0, 1) := by decide +kernel
theorem dX6_addVariable_45 : decode cX6_addVariable 45 = .ok (.getfield 13, 3) := by decide +kernel
theorem dX6_addVariable_48 : decode cX6_addVariable 48 = .ok (.aload_n 0, 1) := by decide +kernel
theorem dX6_addVariable_49 : decode cX6_addVariable 49 = .ok (.getfield 76, 3) := by decide +kernel
theorem dX6_addVariable_52 : decode cX6_addVariable 52 = .ok (.iload_n 1, 1) := by decide +kernel
theorem dX6_addVariable_53 : decode cX6_addVariable 53 = .ok (.iastore, 1) := by decide +kernel
theorem dX6_addVariable_54 : decode cX6_addVariable 54 = .ok (.aload_n 0, 1) := by decide +kernel
theorem dX6_addVariable_55 : decode cX6_addVariable 55 = .ok (.getfield 16, 3) := by decide +kernel
theorem dX6_addVariable_58 : decode cX6_addVariable 58 = .ok (.aload_n 0, 1) := by decide +kernel
theorem dX6_addVariable_59 : decode cX6_addVariable 59 = .ok (.getfield 76, 3) := by decide +kernel
theorem dX6_addVariable_62 : decode cX6_addVariable 62 = .ok (.iload_n 2, 1) := by decide +kernel
theorem dX6_addVariable_63 : decode cX6_addVariable 63 = .ok (.iastore, 1) := by decide +kernel
theorem dX6_addVariable_64 : decode cX6_addVariable 64 = .ok (.aload_n 0, 1) := by decide +kernel
theorem dX6_addVariable_65 : decode cX6_addVariable 65 = .ok (.dup, 1) := by decide +kernel
theorem dX6_addVariable_66 : decode cX6_addVariable 66 = .ok (.getfield 76, 3) := by decide +kernel
theorem dX6_addVariable_69 : decode cX6_addVariable 69 = .ok (.iconst 1, 1) := by decide +kernel
theorem dX6_addVariable_70 : decode cX6_addVariable 70 = .ok (.iadd, 1) := by decide +kernel
theorem dX6_addVariable_71 : decode cX6_addVariable 71 = .ok (.putfield 76, 3) := by decide +kernel
theorem dX6_addVariable_74 : decode cX6_addVariable 74 = .ok (.aload_n 0, 1) := by decide +kernel
theorem dX6_addVariable_75 : decode cX6_addVariable 75 = .ok (.invokevirtual 92, 3) := by decide +kernel
theorem dX6_addVariable_78 : decode cX6_addVariable 78 = .ok (.aload_n 0, 1) := by decide +kernel
theorem dX6_addVariable_79 : decode cX6_addVariable 79 = .ok (.getfield 76, 3) := by decide +kernel
theorem dX6_addVariable_82 : decode cX6_addVariable 82 = .ok (.iconst 1, 1) := by decide +kernel
theorem dX6_addVariable_83 : decode cX6_addVariable 83 = .ok (.isub, 1) := by decide +kernel
theorem dX6_addVariable_84 : decode cX6_addVariable 84 = .ok (.ireturn, 1) := by decide +kernel
theorem dX6_addMove_0 : decode cX6_addMove 0 = .ok (.aload_n 0, 1) := by decide +kernel
theorem dX6_addMove_1 : decode cX6_addMove 1 = .ok (.iconst 0, 1) := by decide +kernel
theorem dX6_addMove_2 : decode cX6_addMove 2 = .ok (.putfield 65, 3) := by decide +kernel
theorem dX6_addMove_5 : decode cX6_addMove 5 = .ok (.aload_n 0, 1) := by decide +kernel
theorem dX6_addMove_6 : decode cX6_addMove 6 = .ok (.iload_n 1, 1) := by decide +kernel
theorem dX6_addMove_7 : decode cX6_addMove 7 = .ok (.invokevirtual 95, 3) := by decide +kernel
theorem dX6_addMove_10 : decode cX6_addMove 10 = .ok (.ifCond .ne 9, 3) := by decide +kernel
theorem dX6_addMove_13 : decode cX6_addMove 13 = .ok (.aload_n 0, 1) := by decide +kernel
theorem dX6_addMove_14 : decode cX6_addMove 14 = .ok (.iconst 1, 1) := by decide +kernel
theorem dX6_addMove_15 : decode cX6_addMove 15 = .ok (.invokevirtual 88, 3) := by decide +kernel
theorem dX6_addMove_18 : decode cX6_addMove 18 = .ok (.ireturn, 1) := by decide +kernel
theorem dX6_addMove_19 : decode cX6_addMove 19 = .ok (.aload_n 0, 1) := by decide +kernel
theorem dX6_addMove_20 : decode cX6_addMove 20 = .ok (.getfield 9, 3) := by decide +kernel
theorem dX6_addMove_23 : decode cX6_addMove 23 = .ok (.iload_n 1, 1) := by decide +kernel
theorem dX6_addMove_24 : decode cX6_addMove 24 = .ok (.iaload, 1) := by decide +kernel
theorem dX6_addMove_25 : decode cX6_addMove 25 = .ok (.iconst 1, 1) := by decide +kernel
theorem dX6_addMove_26 : decode cX6_addMove 26 = .ok (.isub, 1) := by decide +kernel
theorem dX6_addMove_27 : decode cX6_addMove 27 = .ok (.istore 5, 2) := by decide +kernel
theorem dX6_addMove_29 : decode cX6_addMove 29 = .ok (.iload_n 2, 1) := by decide +kernel
theorem dX6_addMove_30 : decode cX6_addMove 30 = .ok (.iconst 0, 1) := by decide +kernel
theorem dX6_addMove_31 : decode cX6_addMove 31 = .ok (.iload 5, 2) := by decide +kernel
theorem dX6_addMove_33 : decode cX6_addMove 33 = .ok (.invokestatic 72, 3) := by decide +kernel
theorem dX6_addMove_36 : decode cX6_addMove 36 = .ok (.ifCond .eq 24, 3) := by decide +kernel
theorem dX6_addMove_39 : decode cX6_addMove 39 = .ok (.iload_n 3, 1) := by decide +kernel
theorem dX6_addMove_40 : decode cX6_addMove 40 = .ok (.iconst 0, 1) := by decide +kernel
theorem dX6_addMove_41 : decode cX6_addMove 41 = .ok (.iload 5, 2) := by decide +kernel
theorem dX6_addMove_43 : decode cX6_addMove 43 = .ok (.invokestatic 72, 3) := by decide +kernel
theorem dX6_addMove_46 : decode cX6_addMove 46 = .ok (.ifCond .eq 14, 3) := by decide +kernel
theorem dX6_addMove_49 : decode cX6_addMove 49 = .ok (.iload 4, 2) := by decide +kernel
theorem dX6_addMove_51 : decode cX6_addMove 51 = .ok (.iconst 0, 1) := by decide +kernel
theorem dX6_addMove_52 : decode cX6_addMove 52 = .ok (.bipush 9, 2) := by decide +kernel
theorem dX6_addMove_54 : decode cX6_addMove 54 = .ok (.invokestatic 72, 3) := by decide +kernel
theorem dX6_addMove_57 : decode cX6_addMove 57 = .ok (.ifCond .ne 9, 3) := by decide +kernel
theorem dX6_addMove_60 : decode cX6_addMove 60 = .ok (.aload_n 0, 1) := by decide +kernel
theorem dX6_addMove_61 : decode cX6_addMove 61 = .ok (.iconst 2, 1) := by decide +kernel
theorem dX6_addMove_62 : decode cX6_addMove 62 = .ok (.invokevirtual 88, 3) := by decide +kernel
theorem dX6_addMove_65 : decode cX6_addMove 65 = .ok (.ireturn, 1) := by decide +kernel
theorem dX6_addMove_66 : decode cX6_addMove 66 = .ok (.aload_n 0, 1) := by decide +kernel
theorem dX6_addMove_67 : decode cX6_addMove 67 = .ok (.getfield 19, 3) := by decide +kernel
theorem dX6_addMove_70 : decode cX6_addMove 70 = .ok (.iload_n 1, 1) := by decide +kernel
theorem dX6_addMove_71 : decode cX6_addMove 71 = .ok (.iaload, 1) := by decide +kernel
theorem dX6_addMove_72 : decode cX6_addMove 72 = .ok (.bipush 16, 2) := by decide +kernel
theorem dX6_addMove_74 : decode cX6_addMove 74 = .ok (.if_icmp .ne 9, 3) := by decide +kernel
theorem dX6_addMove_77 : decode cX6_addMove 77 = .ok (.aload_n 0, 1) := by decide +kernel
theorem dX6_addMove_78 : decode cX6_addMove 78 = .ok (.iconst 3, 1) := by decide +kernel
theorem dX6_addMove_79 : decode cX6_addMove 79 = .ok (.invokevirtual 88, 3) := by decide +kernel
theorem dX6_addMove_82 : decode cX6_addMove 82 = .ok (.ireturn, 1) := by decide +kernel
theorem dX6_addMove_83 : decode cX6_addMove 83 = .ok (.bipush 9, 2) := by decide +kernel
theorem dX6_addMove_85 : decode cX6_addMove 85 = .ok (.newarray .int, 2) := by decide +kernel
theorem dX6_addMove_87 : decode cX6_addMove 87 = .ok (.dup, 1) := by decide +kernel
theorem dX6_addMove_88 : decode cX6_addMove 88 = .ok (.iconst 0, 1) := by decide +kernel
theorem dX6_addMove_89 : decode cX6_addMove 89 = .ok (.iload_n 2, 1) := by decide +kernel
theorem dX6_addMove_90 : decode cX6_addMove 90 = .ok (.iastore, 1) := by decide +kernel
theorem dX6_addMove_91 : decode cX6_addMove 91 = .ok (.dup, 1) := by decide +kernel
theorem dX6_addMove_92 : decode cX6_addMove 92 = .ok (.iconst 1, 1) := by decide +kernel
theorem dX6_addMove_93 : decode cX6_addMove 93 = .ok (.iload_n 3, 1) := by decide +kernel
theorem dX6_addMove_94 : decode cX6_addMove 94 = .ok (.iastore, 1) := by decide +kernel
theorem dX6_addMove_95 : decode cX6_addMove 95 = .ok (.dup, 1) := by decide +kernel
theorem dX6_addMove_96 : decode cX6_addMove 96 = .ok (.iconst 2, 1) := by decide +kernel
theorem dX6_addMove_97 : decode cX6_addMove 97 = .ok (.iload 4, 2) := by decide +kernel
theorem dX6_addMove_99 : decode cX6_addMove 99 = .ok (.iastore, 1) := by decide +kernel
theorem dX6_addMove_100 : decode cX6_addMove 100 = .ok (.dup, 1) := by decide +kernel
theorem dX6_addMove_101 : decode cX6_addMove 101 = .ok (.iconst 3, 1) := by decide +kernel
theorem dX6_addMove_102 : decode cX6_addMove 102 = .ok (.iconst 0, 1) := by decide +kernel
theorem dX6_addMove_103 : decode cX6_addMove 103 = .ok (.iastore, 1) := by decide +kernel
theorem dX6_addMove_104 : decode cX6_addMove 104 = .ok (.dup, 1) := by decide +kernel
theorem dX6_addMove_105 : decode cX6_addMove 105 = .ok (.iconst 4, 1) := by decide +kernel
theorem dX6_addMove_106 : decode cX6_addMove 106 = .ok (.iconst 0, 1) := by decide +kernel
theorem dX6_addMove_107 : decode cX6_addMove 107 = .ok (.iastore, 1) := by decide +kernel
theorem dX6_addMove_108 : decode cX6_addMove 108 = .ok (.dup, 1) := by decide +kernel
theorem dX6_addMove_109 : decode cX6_addMove 109 = .ok (.iconst 5, 1) := by decide +kernel
theorem dX6_addMove_110 : decode cX6_addMove 110 = .ok (.iconst 0, 1) := by decide +kernel
theorem dX6_addMove_111 : decode cX6_addMove 111 = .ok (.iastore, 1) := by decide +kernel
theorem dX6_addMove_112 : decode cX6_addMove 112 = .ok (.dup, 1) := by decide +kernel
theorem dX6_addMove_113 : decode cX6_addMove 113 = .ok (.bipush 6, 2) := by decide +kernel
theorem dX6_addMove_115 : decode cX6_addMove 115 = .ok (.iconst 0, 1) := by decide +kernel
theorem dX6_addMove_116 : decode cX6_addMove 116 = .ok (.iastore, 1) := by decide +kernel
theorem dX6_addMove_117 : decode cX6_addMove 117 = .ok (.dup, 1) := by decide +kernel
theorem dX6_addMove_118 : decode cX6_addMove 118 = .ok (.bipush 7, 2) := by decide +kernel
theorem dX6_addMove_120 : decode cX6_addMove 120 = .ok (.iconst 0, 1) := by decide +kernel
theorem dX6_addMove_121 : decode cX6_addMove 121 = .ok (.iastore, 1) := by decide +kernel
theorem dX6_addMove_122 : decode cX6_addMove 122 = .ok (.dup, 1) := by decide +kernel
theorem dX6_addMove_123 : decode cX6_addMove 123 = .ok (.bipush 8, 2) := by decide +kernel
theorem dX6_addMove_125 : decode cX6_addMove 125 = .ok (.iconst 0, 1) := by decide +kernel
theorem dX6_addMove_126 : decode cX6_addMove 126 = .ok (.iastore, 1) := by decide +kernel
theorem dX6_addMove_127 : decode cX6_addMove 127 = .ok (.astore 6, 2) := by decide +kernel
theorem dX6_addMove_129 : decode cX6_addMove 129 = .ok (.aload 6, 2) := by decide +kernel
theorem dX6_addMove_131 : decode cX6_addMove 131 = .ok (.iconst 0, 1) := by decide +kernel
theorem dX6_addMove_132 : decode cX6_addMove 132 = .ok (.aload_n 0, 1) := by decide +kernel
theorem dX6_addMove_133 : decode cX6_addMove 133 = .ok (.getfield 22, 3) := by decide +kernel
theorem dX6_addMove_136 : decode cX6_addMove 136 = .ok (.bipush 9, 2) := by decide +kernel
theorem dX6_addMove_138 : decode cX6_addMove 138 = .ok (.bipush 16, 2) := by decide +kernel
theorem dX6_addMove_140 : decode cX6_addMove 140 = .ok (.iload_n 1, 1) := by decide +kernel
theorem dX6_addMove_141 : decode cX6_addMove 141 = .ok (.imul, 1) := by decide +kernel
theorem dX6_addMove_142 : decode cX6_addMove 142 = .ok (.aload_n 0, 1) := by decide +kernel
theorem dX6_addMove_143 : decode cX6_addMove 143 = .ok (.getfield 19, 3) := by decide +kernel
theorem dX6_addMove_146 : decode cX6_addMove 146 = .ok (.iload_n 1, 1) := by decide +kernel
theorem dX6_addMove_147 : decode cX6_addMove 147 = .ok (.iaload, 1) := by decide +kernel
theorem dX6_addMove_148 : decode cX6_addMove 148 = .ok (.iadd, 1) := by decide +kernel
theorem dX6_addMove_149 : decode cX6_addMove 149 = .ok (.imul, 1) := by decide +kernel
theorem dX6_addMove_150 : decode cX6_addMove 150 = .ok (.bipush 9, 2) := by decide +kernel
theorem dX6_addMove_152 : decode cX6_addMove 152 = .ok (.invokestatic 99, 3) := by decide +kernel
theorem dX6_addMove_155 : decode cX6_addMove 155 = .ok (.aload_n 0, 1) := by decide +kernel
theorem dX6_addMove_156 : decode cX6_addMove 156 = .ok (.getfield 19, 3) := by decide +kernel
theorem dX6_addMove_159 : decode cX6_addMove 159 = .ok (.iload_n 1, 1) := by decide +kernel
theorem dX6_addMove_160 : decode cX6_addMove 160 = .ok (.dup2, 1) := by decide +kernel
theorem dX6_addMove_161 : decode cX6_addMove 161 = .ok (.iaload, 1) := by decide +kernel
theorem dX6_addMove_162 : decode cX6_addMove 162 = .ok (.iconst 1, 1) := by decide +kernel
theorem dX6_addMove_163 : decode cX6_addMove 163 = .ok (.iadd, 1) := by decide +kernel
theorem dX6_addMove_164 : decode cX6_addMove 164 = .ok (.iastore, 1) := by decide +kernel
theorem dX6_addMove_165 : decode cX6_addMove 165 = .ok (.aload_n 0, 1) := by decide +kernel
theorem dX6_addMove_166 : decode cX6_addMove 166 = .ok (.invokevirtual 92, 3) := by decide +kernel
theorem dX6_addMove_169 : decode cX6_addMove 169 = .ok (.aload_n 0, 1) := by decide +kernel
theorem dX6_addMove_170 : decode cX6_addMove 170 = .ok (.getfield 19, 3) := by decide +kernel
theorem dX6_addMove_173 : decode cX6_addMove 173 = .ok (.iload_n 1, 1) := by decide +kernel
theorem dX6_addMove_174 : decode cX6_addMove 174 = .ok (.iaload, 1) := by decide +kernel
theorem dX6_addMove_175 : decode cX6_addMove 175 = .ok (.iconst 1, 1) := by decide +kernel
theorem dX6_addMove_176 : decode cX6_addMove 176 = .ok (.isub, 1) := by decide +kernel
theorem dX6_addMove_177 : decode cX6_addMove 177 = .ok (.ireturn, 1) := by decide +kernel
theorem dX6_set_0 : decode cX6_set 0 = .ok (.aload_n 0, 1) := by decide +kernel
theorem dX6_set_1 : decode cX6_set 1 = .ok (.iconst 0, 1) := by decide +kernel
theorem dX6_set_2 : decode cX6_set 2 = .ok (.putfield 65, 3) := by decide +kernel
theorem dX6_set_5 : decode cX6_set 5 = .ok (.aload_n 0, 1) := by decide +kernel
theorem dX6_set_6 : decode cX6_set 6 = .ok (.iload_n 1, 1) := by decide +kernel
theorem dX6_set_7 : decode cX6_set 7 = .ok (.invokevirtual 95, 3) := by decide +kernel
theorem dX6_set_10 : decode cX6_set 10 = .ok (.ifCond .eq 19, 3) := by decide +kernel
theorem dX6_set_13 : decode cX6_set 13 = .ok (.iload_n 2, 1) := by decide +kernel
theorem dX6_set_14 : decode cX6_set 14 = .ok (.iconst 0, 1) := by decide +kernel
theorem dX6_set_15 : decode cX6_set 15 = .ok (.aload_n 0, 1) := by decide +kernel
theorem dX6_set_16 : decode cX6_set 16 = .ok (.getfield 19, 3) := by decide +kernel
theorem dX6_set_19 : decode cX6_set 19 = .ok (.iload_n 1, 1) := by decide +kernel
theorem dX6_set_20 : decode cX6_set 20 = .ok (.iaload, 1) := by decide +kernel
theorem dX6_set_21 : decode cX6_set 21 = .ok (.iconst 1, 1) := by decide +kernel
theorem dX6_set_22 : decode cX6_set 22 = .ok (.isub, 1) := by decide +kernel
theorem dX6_set_23 : decode cX6_set 23 = .ok (.invokestatic 72, 3) := by decide +kernel
theorem dX6_set_26 : decode cX6_set 26 = .ok (.ifCond .ne 9, 3) := by decide +kernel
theorem dX6_set_29 : decode cX6_set 29 = .ok (.aload_n 0, 1) := by decide +kernel
theorem dX6_set_30 : decode cX6_set 30 = .ok (.iconst 1, 1) := by decide +kernel
theorem dX6_set_31 : decode cX6_set 31 = .ok (.invokevirtual 88, 3) := by decide +kernel
theorem dX6_set_34 : decode cX6_set 34 = .ok (.ireturn, 1) := by decide +kernel
theorem dX6_set_35 : decode cX6_set 35 = .ok (.iload_n 3, 1) := by decide +kernel
theorem dX6_set_36 : decode cX6_set 36 = .ok (.ifCond .eq 17, 3) := by decide +kernel
theorem dX6_set_39 : decode cX6_set 39 = .ok (.iload 5, 2) := by decide +kernel
theorem dX6_set_41 : decode cX6_set 41 = .ok (.ifCond .eq 18, 3) := by decide +kernel
theorem dX6_set_44 : decode cX6_set 44 = .ok (.aload_n 0, 1) := by decide +kernel
theorem dX6_set_45 : decode cX6_set 45 = .ok (.iload 6, 2) := by decide +kernel
theorem dX6_set_47 : decode cX6_set 47 = .ok (.invokevirtual 105, 3) := by decide +kernel
theorem dX6_set_50 : decode cX6_set 50 = .ok (.ifCond .ne 9, 3) := by decide +kernel
theorem dX6_set_53 : decode cX6_set 53 = .ok (.aload_n 0, 1) := by decide +kernel
theorem dX6_set_54 : decode cX6_set 54 = .ok (.iconst 2, 1) := by decide +kernel
theorem dX6_set_55 : decode cX6_set 55 = .ok (.invokevirtual 88, 3) := by decide +kernel
theorem dX6_set_58 : decode cX6_set 58 = .ok (.ireturn, 1) := by decide +kernel
theorem dX6_set_59 : decode cX6_set 59 = .ok (.aload_n 0, 1) := by decide +kernel
theorem dX6_set_60 : decode cX6_set 60 = .ok (.iload_n 1, 1) := by decide +kernel
theorem dX6_set_61 : decode cX6_set 61 = .ok (.iload_n 2, 1) := by decide +kernel
theorem dX6_set_62 : decode cX6_set 62 = .ok (.iload 4, 2) := by decide +kernel
theorem dX6_set_64 : decode cX6_set 64 = .ok (.invokevirtual 108, 3) := by decide +kernel
theorem dX6_set_67 : decode cX6_set 67 = .ok (.istore 8, 2) := by decide +kernel
theorem dX6_set_69 : decode cX6_set 69 = .ok (.iconst 3, 1) := by decide +kernel
theorem dX6_set_70 : decode cX6_set 70 = .ok (.newarray .int, 2) := by decide +kernel
theorem dX6_set_72 : decode cX6_set 72 = .ok (.dup, 1) := by decide +kernel
theorem dX6_set_73 : decode cX6_set 73 = .ok (.iconst 0, 1) := by decide +kernel
theorem dX6_set_74 : decode cX6_set 74 = .ok (.iload 5, 2) := by decide +kernel
theorem dX6_set_76 : decode cX6_set 76 = .ok (.iastore, 1) := by decide +kernel
theorem dX6_set_77 : decode cX6_set 77 = .ok (.dup, 1) := by decide +kernel
theorem dX6_set_78 : decode cX6_set 78 = .ok (.iconst 1, 1) := by decide +kernel
theorem dX6_set_79 : decode cX6_set 79 = .ok (.iload 6, 2) := by decide +kernel
theorem dX6_set_81 : decode cX6_set 81 = .ok (.iastore, 1) := by decide +kernel
theorem dX6_set_82 : decode cX6_set 82 = .ok (.dup, 1) := by decide +kernel
theorem dX6_set_83 : decode cX6_set 83 = .ok (.iconst 2, 1) := by decide +kernel
theorem dX6_set_84 : decode cX6_set 84 = .ok (.iload 7, 2) := by decide +kernel
theorem dX6_set_86 : decode cX6_set 86 = .ok (.iastore, 1) := by decide +kernel
theorem dX6_set_87 : decode cX6_set 87 = .ok (.astore 9, 2) := by decide +kernel
theorem dX6_set_89 : decode cX6_set 89 = .ok (.aload 9, 2) := by decide +kernel
theorem dX6_set_91 : decode cX6_set 91 = .ok (.iconst 0, 1) := by decide +kernel
theorem dX6_set_92 : decode cX6_set 92 = .ok (.aload_n 0, 1) := by decide +kernel
theorem dX6_set_93 : decode cX6_set 93 = .ok (.getfield 22, 3) := by decide +kernel
theorem dX6_set_96 : decode cX6_set 96 = .ok (.bipush 9, 2) := by decide +kernel
theorem dX6_set_98 : decode cX6_set 98 = .ok (.bipush 16, 2) := by decide +kernel
theorem dX6_set_100 : decode cX6_set 100 = .ok (.iload_n 1, 1) := by decide +kernel
theorem dX6_set_101 : decode cX6_set 101 = .ok (.imul, 1) := by decide +kernel
theorem dX6_set_102 : decode cX6_set 102 = .ok (.iload_n 2, 1) := by decide +kernel
theorem dX6_set_103 : decode cX6_set 103 = .ok (.iadd, 1) := by decide +kernel
theorem dX6_set_104 : decode cX6_set 104 = .ok (.imul, 1) := by decide +kernel
theorem dX6_set_105 : decode cX6_set 105 = .ok (.iload 4, 2) := by decide +kernel
theorem dX6_set_107 : decode cX6_set 107 = .ok (.iadd, 1) := by decide +kernel
theorem dX6_set_108 : decode cX6_set 108 = .ok (.iconst 3, 1) := by decide +kernel
theorem dX6_set_109 : decode cX6_set 109 = .ok (.invokestatic 99, 3) := by decide +kernel
theorem dX6_set_112 : decode cX6_set 112 = .ok (.aload_n 0, 1) := by decide +kernel
theorem dX6_set_113 : decode cX6_set 113 = .ok (.invokevirtual 92, 3) := by decide +kernel
theorem dX6_set_116 : decode cX6_set 116 = .ok (.iload 8, 2) := by decide +kernel
theorem dX6_set_118 : decode cX6_set 118 = .ok (.ireturn, 1) := by decide +kernel
theorem dX6_guard_0 : decode cX6_guard 0 = .ok (.aload_n 0, 1) := by decide +kernel
theorem dX6_guard_1 : decode cX6_guard 1 = .ok (.iload_n 1, 1) := by decide +kernel
theorem dX6_guard_2 : decode cX6_guard 2 = .ok (.iload_n 2, 1) := by decide +kernel
theorem dX6_guard_3 : decode cX6_guard 3 = .ok (.iload_n 3, 1) := by decide +kernel
theorem dX6_guard_4 : decode cX6_guard 4 = .ok (.iconst 0, 1) := by decide +kernel
theorem dX6_guard_5 : decode cX6_guard 5 = .ok (.iconst 4, 1) := by decide +kernel
theorem dX6_guard_6 : decode cX6_guard 6 = .ok (.invokestatic 72, 3) := by decide +kernel
theorem dX6_guard_9 : decode cX6_guard 9 = .ok (.ifCond .eq 18, 3) := by decide +kernel
theorem dX6_guard_12 : decode cX6_guard 12 = .ok (.iload 5, 2) := by decide +kernel
theorem dX6_guard_14 : decode cX6_guard 14 = .ok (.iconst 0, 1) := by decide +kernel
theorem dX6_guard_15 : decode cX6_guard 15 = .ok (.bipush 9, 2) := by decide +kernel
theorem dX6_guard_17 : decode cX6_guard 17 = .ok (.invokestatic 72, 3) := by decide +kernel
theorem dX6_guard_20 : decode cX6_guard 20 = .ok (.ifCond .eq 7, 3) := by decide +kernel
theorem dX6_guard_23 : decode cX6_guard 23 = .ok (.iconst 1, 1) := by decide +kernel
theorem dX6_guard_24 : decode cX6_guard 24 = .ok (.goto 4, 3) := by decide +kernel
theorem dX6_guard_27 : decode cX6_guard 27 = .ok (.iconst 0, 1) := by decide +kernel
theorem dX6_guard_28 : decode cX6_guard 28 = .ok (.iconst 3, 1) := by decide +kernel
theorem dX6_guard_29 : decode cX6_guard 29 = .ok (.iload_n 3, 1) := by decide +kernel
theorem dX6_guard_30 : decode cX6_guard 30 = .ok (.iload 4, 2) := by decide +kernel
theorem dX6_guard_32 : decode cX6_guard 32 = .ok (.iload 5, 2) := by decide +kernel
theorem dX6_guard_34 : decode cX6_guard 34 = .ok (.invokevirtual 112, 3) := by decide +kernel
theorem dX6_guard_37 : decode cX6_guard 37 = .ok (.ireturn, 1) := by decide +kernel
theorem dX6_deed_0 : decode cX6_deed 0 = .ok (.aload_n 0, 1) := by decide +kernel
theorem dX6_deed_1 : decode cX6_deed 1 = .ok (.iload_n 1, 1) := by decide +kernel
theorem dX6_deed_2 : decode cX6_deed 2 = .ok (.iload_n 2, 1) := by decide +kernel
theorem dX6_deed_3 : decode cX6_deed 3 = .ok (.iload_n 3, 1) := by decide +kernel
theorem dX6_deed_4 : decode cX6_deed 4 = .ok (.iconst 0, 1) := by decide +kernel
theorem dX6_deed_5 : decode cX6_deed 5 = .ok (.iconst 2, 1) := by decide +kernel
theorem dX6_deed_6 : decode cX6_deed 6 = .ok (.invokestatic 72, 3) := by decide +kernel
theorem dX6_deed_9 : decode cX6_deed 9 = .ok (.ifCond .eq 19, 3) := by decide +kernel
theorem dX6_deed_12 : decode cX6_deed 12 = .ok (.iload 5, 2) := by decide +kernel
theorem dX6_deed_14 : decode cX6_deed 14 = .ok (.bipush (-9), 2) := by decide +kernel
theorem dX6_deed_16 : decode cX6_deed 16 = .ok (.bipush 9, 2) := by decide +kernel
theorem dX6_deed_18 : decode cX6_deed 18 = .ok (.invokestatic 72, 3) := by decide +kernel
theorem dX6_deed_21 : decode cX6_deed 21 = .ok (.ifCond .eq 7, 3) := by decide +kernel
theorem dX6_deed_24 : decode cX6_deed 24 = .ok (.iconst 1, 1) := by decide +kernel
theorem dX6_deed_25 : decode cX6_deed 25 = .ok (.goto 4, 3) := by decide +kernel
theorem dX6_deed_28 : decode cX6_deed 28 = .ok (.iconst 0, 1) := by decide +kernel
theorem dX6_deed_29 : decode cX6_deed 29 = .ok (.bipush 6, 2) := by decide +kernel
theorem dX6_deed_31 : decode cX6_deed 31 = .ok (.iload_n 3, 1) := by decide +kernel
theorem dX6_deed_32 : decode cX6_deed 32 = .ok (.iload 4, 2) := by decide +kernel
theorem dX6_deed_34 : decode cX6_deed 34 = .ok (.iload 5, 2) := by decide +kernel
theorem dX6_deed_36 : decode cX6_deed 36 = .ok (.invokevirtual 112, 3) := by decide +kernel
theorem dX6_deed_39 : decode cX6_deed 39 = .ok (.ireturn, 1) := by decide +kernel
theorem dX6_counted_0 : decode cX6_counted 0 = .ok (.iconst 0, 1) := by decide +kernel
theorem dX6_counted_1 : decode cX6_counted 1 = .ok (.istore_n 2, 1) := by decide +kernel
theorem dX6_counted_2 : decode cX6_counted 2 = .ok (.iload_n 1, 1) := by decide +kernel
theorem dX6_counted_3 : decode cX6_counted 3 = .ok (.tableswitch 80 0 4 #[33, 38, 43, 70, 75], 33) := by decide +kernel
theorem dX6_counted_36 : decode cX6_counted 36 = .ok (.aload_n 0, 1) := by decide +kernel
theorem dX6_counted_37 : decode cX6_counted 37 = .ok (.getfield 69, 3) := by decide +kernel
theorem dX6_counted_40 : decode cX6_counted 40 = .ok (.ireturn, 1) := by decide +kernel
theorem dX6_counted_41 : decode cX6_counted 41 = .ok (.aload_n 0, 1) := by decide +kernel
theorem dX6_counted_42 : decode cX6_counted 42 = .ok (.getfield 76, 3) := by decide +kernel
theorem dX6_counted_45 : decode cX6_counted 45 = .ok (.ireturn, 1) := by decide +kernel
theorem dX6_counted_46 : decode cX6_counted 46 = .ok (.iconst 0, 1) := by decide +kernel
theorem dX6_counted_47 : decode cX6_counted 47 = .ok (.istore_n 3, 1) := by decide +kernel
theorem dX6_counted_48 : decode cX6_counted 48 = .ok (.iload_n 3, 1) := by decide +kernel
theorem dX6_counted_49 : decode cX6_counted 49 = .ok (.aload_n 0, 1) := by decide +kernel
theorem dX6_counted_50 : decode cX6_counted 50 = .ok (.getfield 69, 3) := by decide +kernel
theorem dX6_counted_53 : decode cX6_counted 53 = .ok (.if_icmp .ge 18, 3) := by decide +kernel
theorem dX6_counted_56 : decode cX6_counted 56 = .ok (.iload_n 2, 1) := by decide +kernel
theorem dX6_counted_57 : decode cX6_counted 57 = .ok (.aload_n 0, 1) := by decide +kernel
theorem dX6_counted_58 : decode cX6_counted 58 = .ok (.getfield 19, 3) := by decide +kernel
theorem dX6_counted_61 : decode cX6_counted 61 = .ok (.iload_n 3, 1) := by decide +kernel
theorem dX6_counted_62 : decode cX6_counted 62 = .ok (.iaload, 1) := by decide +kernel
theorem dX6_counted_63 : decode cX6_counted 63 = .ok (.iadd, 1) := by decide +kernel
theorem dX6_counted_64 : decode cX6_counted 64 = .ok (.istore_n 2, 1) := by decide +kernel
theorem dX6_counted_65 : decode cX6_counted 65 = .ok (.iinc 3 1, 3) := by decide +kernel
theorem dX6_counted_68 : decode cX6_counted 68 = .ok (.goto (-20), 3) := by decide +kernel
theorem dX6_counted_71 : decode cX6_counted 71 = .ok (.iload_n 2, 1) := by decide +kernel
theorem dX6_counted_72 : decode cX6_counted 72 = .ok (.ireturn, 1) := by decide +kernel
theorem dX6_counted_73 : decode cX6_counted 73 = .ok (.aload_n 0, 1) := by decide +kernel
theorem dX6_counted_74 : decode cX6_counted 74 = .ok (.getfield 79, 3) := by decide +kernel
theorem dX6_counted_77 : decode cX6_counted 77 = .ok (.ireturn, 1) := by decide +kernel
theorem dX6_counted_78 : decode cX6_counted 78 = .ok (.aload_n 0, 1) := by decide +kernel
theorem dX6_counted_79 : decode cX6_counted 79 = .ok (.getfield 82, 3) := by decide +kernel
theorem dX6_counted_82 : decode cX6_counted 82 = .ok (.ireturn, 1) := by decide +kernel
theorem dX6_counted_83 : decode cX6_counted 83 = .ok (.aload_n 0, 1) := by decide +kernel
theorem dX6_counted_84 : decode cX6_counted 84 = .ok (.getfield 85, 3) := by decide +kernel
theorem dX6_counted_87 : decode cX6_counted 87 = .ok (.ireturn, 1) := by decide +kernel
theorem dX6_count_0 : decode cX6_count 0 = .ok (.aload_n 0, 1) := by decide +kernel
theorem dX6_count_1 : decode cX6_count 1 = .ok (.iconst 0, 1) := by decide +kernel
theorem dX6_count_2 : decode cX6_count 2 = .ok (.putfield 65, 3) := by decide +kernel
theorem dX6_count_5 : decode cX6_count 5 = .ok (.iload_n 1, 1) := by decide +kernel
theorem dX6_count_6 : decode cX6_count 6 = .ok (.iconst 0, 1) := by decide +kernel
theorem dX6_count_7 : decode cX6_count 7 = .ok (.iconst 5, 1) := by decide +kernel
theorem dX6_count_8 : decode cX6_count 8 = .ok (.invokestatic 72, 3) := by decide +kernel
theorem dX6_count_11 : decode cX6_count 11 = .ok (.ifCond .eq 11, 3) := by decide +kernel
theorem dX6_count_14 : decode cX6_count 14 = .ok (.aload_n 0, 1) := by decide +kernel
theorem dX6_count_15 : decode cX6_count 15 = .ok (.iload_n 1, 1) := by decide +kernel
theorem dX6_count_16 : decode cX6_count 16 = .ok (.invokevirtual 116, 3) := by decide +kernel
theorem dX6_count_19 : decode cX6_count 19 = .ok (.goto 8, 3) := by decide +kernel
theorem dX6_count_22 : decode cX6_count 22 = .ok (.aload_n 0, 1) := by decide +kernel
theorem dX6_count_23 : decode cX6_count 23 = .ok (.iconst 1, 1) := by decide +kernel
theorem dX6_count_24 : decode cX6_count 24 = .ok (.invokevirtual 88, 3) := by decide +kernel
theorem dX6_count_27 : decode cX6_count 27 = .ok (.ireturn, 1) := by decide +kernel
theorem dX6_location_0 : decode cX6_location 0 = .ok (.iload_n 0, 1) := by decide +kernel
theorem dX6_location_1 : decode cX6_location 1 = .ok (.iconst 3, 1) := by decide +kernel
theorem dX6_location_2 : decode cX6_location 2 = .ok (.iload_n 1, 1) := by decide +kernel
theorem dX6_location_3 : decode cX6_location 3 = .ok (.imul, 1) := by decide +kernel
theorem dX6_location_4 : decode cX6_location 4 = .ok (.ishr, 1) := by decide +kernel
theorem dX6_location_5 : decode cX6_location 5 = .ok (.bipush 7, 2) := by decide +kernel
theorem dX6_location_7 : decode cX6_location 7 = .ok (.iand, 1) := by decide +kernel
theorem dX6_location_8 : decode cX6_location 8 = .ok (.ireturn, 1) := by decide +kernel
theorem dX6_value_0 : decode cX6_value 0 = .ok (.iload_n 0, 1) := by decide +kernel
theorem dX6_value_1 : decode cX6_value 1 = .ok (.bipush 15, 2) := by decide +kernel
theorem dX6_value_3 : decode cX6_value 3 = .ok (.iconst 4, 1) := by decide +kernel
theorem dX6_value_4 : decode cX6_value 4 = .ok (.iload_n 1, 1) := by decide +kernel
theorem dX6_value_5 : decode cX6_value 5 = .ok (.imul, 1) := by decide +kernel
theorem dX6_value_6 : decode cX6_value 6 = .ok (.iadd, 1) := by decide +kernel
theorem dX6_value_7 : decode cX6_value 7 = .ok (.ishr, 1) := by decide +kernel
theorem dX6_value_8 : decode cX6_value 8 = .ok (.bipush 15, 2) := by decide +kernel
theorem dX6_value_10 : decode cX6_value 10 = .ok (.iand, 1) := by decide +kernel
theorem dX6_value_11 : decode cX6_value 11 = .ok (.ireturn, 1) := by decide +kernel
theorem dX6_withLocation_0 : decode cX6_withLocation 0 = .ok (.iload_n 0, 1) := by decide +kernel
theorem dX6_withLocation_1 : decode cX6_withLocation 1 = .ok (.bipush 7, 2) := by decide +kernel
theorem dX6_withLocation_3 : decode cX6_withLocation 3 = .ok (.iconst 3, 1) := by decide +kernel
theorem dX6_withLocation_4 : decode cX6_withLocation 4 = .ok (.iload_n 1, 1) := by decide +kernel
theorem dX6_withLocation_5 : decode cX6_withLocation 5 = .ok (.imul, 1) := by decide +kernel
theorem dX6_withLocation_6 : decode cX6_withLocation 6 = .ok (.ishl, 1) := by decide +kernel
theorem dX6_withLocation_7 : decode cX6_withLocation 7 = .ok (.iconst (-1), 1) := by decide +kernel
theorem dX6_withLocation_8 : decode cX6_withLocation 8 = .ok (.ixor, 1) := by decide +kernel
theorem dX6_withLocation_9 : decode cX6_withLocation 9 = .ok (.iand, 1) := by decide +kernel
theorem dX6_withLocation_10 : decode cX6_withLocation 10 = .ok (.iload_n 2, 1) := by decide +kernel
theorem dX6_withLocation_11 : decode cX6_withLocation 11 = .ok (.iconst 3, 1) := by decide +kernel
theorem dX6_withLocation_12 : decode cX6_withLocation 12 = .ok (.iload_n 1, 1) := by decide +kernel
theorem dX6_withLocation_13 : decode cX6_withLocation 13 = .ok (.imul, 1) := by decide +kernel
theorem dX6_withLocation_14 : decode cX6_withLocation 14 = .ok (.ishl, 1) := by decide +kernel
theorem dX6_withLocation_15 : decode cX6_withLocation 15 = .ok (.ior, 1) := by decide +kernel
theorem dX6_withLocation_16 : decode cX6_withLocation 16 = .ok (.ireturn, 1) := by decide +kernel
theorem dX6_withValue_0 : decode cX6_withValue 0 = .ok (.iload_n 0, 1) := by decide +kernel
theorem dX6_withValue_1 : decode cX6_withValue 1 = .ok (.bipush 15, 2) := by decide +kernel
theorem dX6_withValue_3 : decode cX6_withValue 3 = .ok (.bipush 15, 2) := by decide +kernel
theorem dX6_withValue_5 : decode cX6_withValue 5 = .ok (.iconst 4, 1) := by decide +kernel
theorem dX6_withValue_6 : decode cX6_withValue 6 = .ok (.iload_n 1, 1) := by decide +kernel
theorem dX6_withValue_7 : decode cX6_withValue 7 = .ok (.imul, 1) := by decide +kernel
theorem dX6_withValue_8 : decode cX6_withValue 8 = .ok (.iadd, 1) := by decide +kernel
theorem dX6_withValue_9 : decode cX6_withValue 9 = .ok (.ishl, 1) := by decide +kernel
theorem dX6_withValue_10 : decode cX6_withValue 10 = .ok (.iconst (-1), 1) := by decide +kernel
theorem dX6_withValue_11 : decode cX6_withValue 11 = .ok (.ixor, 1) := by decide +kernel
theorem dX6_withValue_12 : decode cX6_withValue 12 = .ok (.iand, 1) := by decide +kernel
theorem dX6_withValue_13 : decode cX6_withValue 13 = .ok (.iload_n 2, 1) := by decide +kernel
theorem dX6_withValue_14 : decode cX6_withValue 14 = .ok (.bipush 15, 2) := by decide +kernel
theorem dX6_withValue_16 : decode cX6_withValue 16 = .ok (.iconst 4, 1) := by decide +kernel
theorem dX6_withValue_17 : decode cX6_withValue 17 = .ok (.iload_n 1, 1) := by decide +kernel
theorem dX6_withValue_18 : decode cX6_withValue 18 = .ok (.imul, 1) := by decide +kernel
theorem dX6_withValue_19 : decode cX6_withValue 19 = .ok (.iadd, 1) := by decide +kernel
theorem dX6_withValue_20 : decode cX6_withValue 20 = .ok (.ishl, 1) := by decide +kernel
theorem dX6_withValue_21 : decode cX6_withValue 21 = .ok (.ior, 1) := by decide +kernel
theorem dX6_withValue_22 : decode cX6_withValue 22 = .ok (.ireturn, 1) := by decide +kernel
theorem dX6_isGuarded_0 : decode cX6_isGuarded 0 = .ok (.aload_n 0, 1) := by decide +kernel
theorem dX6_isGuarded_1 : decode cX6_isGuarded 1 = .ok (.iload_n 2, 1) := by decide +kernel
theorem dX6_isGuarded_2 : decode cX6_isGuarded 2 = .ok (.iload_n 3, 1) := by decide +kernel
theorem dX6_isGuarded_3 : decode cX6_isGuarded 3 = .ok (.iconst 3, 1) := by decide +kernel
theorem dX6_isGuarded_4 : decode cX6_isGuarded 4 = .ok (.invokevirtual 108, 3) := by decide +kernel
theorem dX6_isGuarded_7 : decode cX6_isGuarded 7 = .ok (.istore 4, 2) := by decide +kernel
theorem dX6_isGuarded_9 : decode cX6_isGuarded 9 = .ok (.iload 4, 2) := by decide +kernel
theorem dX6_isGuarded_11 : decode cX6_isGuarded 11 = .ok (.ifCond .ne 7, 3) := by decide +kernel
theorem dX6_isGuarded_14 : decode cX6_isGuarded 14 = .ok (.iconst 0, 1) := by decide +kernel
theorem dX6_isGuarded_15 : decode cX6_isGuarded 15 = .ok (.goto 14, 3) := by decide +kernel
theorem dX6_isGuarded_18 : decode cX6_isGuarded 18 = .ok (.iload_n 1, 1) := by decide +kernel
theorem dX6_isGuarded_19 : decode cX6_isGuarded 19 = .ok (.aload_n 0, 1) := by decide +kernel
theorem dX6_isGuarded_20 : decode cX6_isGuarded 20 = .ok (.iload_n 2, 1) := by decide +kernel
theorem dX6_isGuarded_21 : decode cX6_isGuarded 21 = .ok (.iload_n 3, 1) := by decide +kernel
theorem dX6_isGuarded_22 : decode cX6_isGuarded 22 = .ok (.iconst 4, 1) := by decide +kernel
theorem dX6_isGuarded_23 : decode cX6_isGuarded 23 = .ok (.invokevirtual 108, 3) := by decide +kernel
theorem dX6_isGuarded_26 : decode cX6_isGuarded 26 = .ok (.invokestatic 119, 3) := by decide +kernel
theorem dX6_isGuarded_29 : decode cX6_isGuarded 29 = .ok (.istore 5, 2) := by decide +kernel
theorem dX6_isGuarded_31 : decode cX6_isGuarded 31 = .ok (.aload_n 0, 1) := by decide +kernel
theorem dX6_isGuarded_32 : decode cX6_isGuarded 32 = .ok (.iload_n 2, 1) := by decide +kernel
theorem dX6_isGuarded_33 : decode cX6_isGuarded 33 = .ok (.iload_n 3, 1) := by decide +kernel
theorem dX6_isGuarded_34 : decode cX6_isGuarded 34 = .ok (.iconst 5, 1) := by decide +kernel
theorem dX6_isGuarded_35 : decode cX6_isGuarded 35 = .ok (.invokevirtual 108, 3) := by decide +kernel
theorem dX6_isGuarded_38 : decode cX6_isGuarded 38 = .ok (.istore 6, 2) := by decide +kernel
theorem dX6_isGuarded_40 : decode cX6_isGuarded 40 = .ok (.iload 4, 2) := by decide +kernel
theorem dX6_isGuarded_42 : decode cX6_isGuarded 42 = .ok (.ifCond .eq 55, 3) := by decide +kernel
theorem dX6_isGuarded_45 : decode cX6_isGuarded 45 = .ok (.iload 4, 2) := by decide +kernel
theorem dX6_isGuarded_47 : decode cX6_isGuarded 47 = .ok (.iconst 1, 1) := by decide +kernel
theorem dX6_isGuarded_48 : decode cX6_isGuarded 48 = .ok (.if_icmp .ne 10, 3) := by decide +kernel
theorem dX6_isGuarded_51 : decode cX6_isGuarded 51 = .ok (.iload 5, 2) := by decide +kernel
theorem dX6_isGuarded_53 : decode cX6_isGuarded 53 = .ok (.iload 6, 2) := by decide +kernel
theorem dX6_isGuarded_55 : decode cX6_isGuarded 55 = .ok (.if_icmp .eq 42, 3) := by decide +kernel
theorem dX6_isGuarded_58 : decode cX6_isGuarded 58 = .ok (.iload 4, 2) := by decide +kernel
theorem dX6_isGuarded_60 : decode cX6_isGuarded 60 = .ok (.iconst 2, 1) := by decide +kernel
theorem dX6_isGuarded_61 : decode cX6_isGuarded 61 = .ok (.if_icmp .ne 10, 3) := by decide +kernel
theorem dX6_isGuarded_64 : decode cX6_isGuarded 64 = .ok (.iload 5, 2) := by decide +kernel
theorem dX6_isGuarded_66 : decode cX6_isGuarded 66 = .ok (.iload 6, 2) := by decide +kernel
theorem dX6_isGuarded_68 : decode cX6_isGuarded 68 = .ok (.if_icmp .ne 29, 3) := by decide +kernel
theorem dX6_isGuarded_71 : decode cX6_isGuarded 71 = .ok (.iload 4, 2) := by decide +kernel
theorem dX6_isGuarded_73 : decode cX6_isGuarded 73 = .ok (.iconst 3, 1) := by decide +kernel
theorem dX6_isGuarded_74 : decode cX6_isGuarded 74 = .ok (.if_icmp .ne 10, 3) := by decide +kernel
theorem dX6_isGuarded_77 : decode cX6_isGuarded 77 = .ok (.iload 5, 2) := by decide +kernel
theorem dX6_isGuarded_79 : decode cX6_isGuarded 79 = .ok (.iload 6, 2) := by decide +kernel
theorem dX6_isGuarded_81 : decode cX6_isGuarded 81 = .ok (.if_icmp .lt 16, 3) := by decide +kernel
theorem dX6_isGuarded_84 : decode cX6_isGuarded 84 = .ok (.iload 4, 2) := by decide +kernel
theorem dX6_isGuarded_86 : decode cX6_isGuarded 86 = .ok (.iconst 4, 1) := by decide +kernel
theorem dX6_isGuarded_87 : decode cX6_isGuarded 87 = .ok (.if_icmp .ne 14, 3) := by decide +kernel
theorem dX6_isGuarded_90 : decode cX6_isGuarded 90 = .ok (.iload 5, 2) := by decide +kernel
theorem dX6_isGuarded_92 : decode cX6_isGuarded 92 = .ok (.iload 6, 2) := by decide +kernel
theorem dX6_isGuarded_94 : decode cX6_isGuarded 94 = .ok (.if_icmp .le 7, 3) := by decide +kernel
theorem dX6_isGuarded_97 : decode cX6_isGuarded 97 = .ok (.iconst 1, 1) := by decide +kernel
theorem dX6_isGuarded_98 : decode cX6_isGuarded 98 = .ok (.goto 4, 3) := by decide +kernel
theorem dX6_isGuarded_101 : decode cX6_isGuarded 101 = .ok (.iconst 0, 1) := by decide +kernel
theorem dX6_isGuarded_102 : decode cX6_isGuarded 102 = .ok (.ireturn, 1) := by decide +kernel
theorem dX6_behind_0 : decode cX6_behind 0 = .ok (.iload_n 1, 1) := by decide +kernel
theorem dX6_behind_1 : decode cX6_behind 1 = .ok (.iload_n 2, 1) := by decide +kernel
theorem dX6_behind_2 : decode cX6_behind 2 = .ok (.aload_n 0, 1) := by decide +kernel
theorem dX6_behind_3 : decode cX6_behind 3 = .ok (.iload_n 2, 1) := by decide +kernel
theorem dX6_behind_4 : decode cX6_behind 4 = .ok (.iload_n 3, 1) := by decide +kernel
theorem dX6_behind_5 : decode cX6_behind 5 = .ok (.iconst 1, 1) := by decide +kernel
theorem dX6_behind_6 : decode cX6_behind 6 = .ok (.invokevirtual 108, 3) := by decide +kernel
theorem dX6_behind_9 : decode cX6_behind 9 = .ok (.invokestatic 123, 3) := by decide +kernel
theorem dX6_behind_12 : decode cX6_behind 12 = .ok (.istore 4, 2) := by decide +kernel
theorem dX6_behind_14 : decode cX6_behind 14 = .ok (.aload_n 0, 1) := by decide +kernel
theorem dX6_behind_15 : decode cX6_behind 15 = .ok (.iload_n 2, 1) := by decide +kernel
theorem dX6_behind_16 : decode cX6_behind 16 = .ok (.iload_n 3, 1) := by decide +kernel
theorem dX6_behind_17 : decode cX6_behind 17 = .ok (.bipush 6, 2) := by decide +kernel
theorem dX6_behind_19 : decode cX6_behind 19 = .ok (.invokevirtual 108, 3) := by decide +kernel
theorem dX6_behind_22 : decode cX6_behind 22 = .ok (.istore 5, 2) := by decide +kernel
theorem dX6_behind_24 : decode cX6_behind 24 = .ok (.iload 5, 2) := by decide +kernel
theorem dX6_behind_26 : decode cX6_behind 26 = .ok (.ifCond .ne 6, 3) := by decide +kernel
theorem dX6_behind_29 : decode cX6_behind 29 = .ok (.iload 4, 2) := by decide +kernel
theorem dX6_behind_31 : decode cX6_behind 31 = .ok (.ireturn, 1) := by decide +kernel
theorem dX6_behind_32 : decode cX6_behind 32 = .ok (.aload_n 0, 1) := by decide +kernel
theorem dX6_behind_33 : decode cX6_behind 33 = .ok (.iload_n 2, 1) := by decide +kernel
theorem dX6_behind_34 : decode cX6_behind 34 = .ok (.iload_n 3, 1) := by decide +kernel
theorem dX6_behind_35 : decode cX6_behind 35 = .ok (.bipush 7, 2) := by decide +kernel
theorem dX6_behind_37 : decode cX6_behind 37 = .ok (.invokevirtual 108, 3) := by decide +kernel
theorem dX6_behind_40 : decode cX6_behind 40 = .ok (.istore 6, 2) := by decide +kernel
theorem dX6_behind_42 : decode cX6_behind 42 = .ok (.aload_n 0, 1) := by decide +kernel
theorem dX6_behind_43 : decode cX6_behind 43 = .ok (.iload_n 2, 1) := by decide +kernel
theorem dX6_behind_44 : decode cX6_behind 44 = .ok (.iload_n 3, 1) := by decide +kernel
theorem dX6_behind_45 : decode cX6_behind 45 = .ok (.bipush 8, 2) := by decide +kernel
theorem dX6_behind_47 : decode cX6_behind 47 = .ok (.invokevirtual 108, 3) := by decide +kernel
theorem dX6_behind_50 : decode cX6_behind 50 = .ok (.iload 5, 2) := by decide +kernel
theorem dX6_behind_52 : decode cX6_behind 52 = .ok (.iconst 2, 1) := by decide +kernel
theorem dX6_behind_53 : decode cX6_behind 53 = .ok (.if_icmp .ne 12, 3) := by decide +kernel
theorem dX6_behind_56 : decode cX6_behind 56 = .ok (.iload_n 1, 1) := by decide +kernel
theorem dX6_behind_57 : decode cX6_behind 57 = .ok (.iload 6, 2) := by decide +kernel
theorem dX6_behind_59 : decode cX6_behind 59 = .ok (.invokestatic 119, 3) := by decide +kernel
theorem dX6_behind_62 : decode cX6_behind 62 = .ok (.goto 4, 3) := by decide +kernel
theorem dX6_behind_65 : decode cX6_behind 65 = .ok (.iconst 0, 1) := by decide +kernel
theorem dX6_behind_66 : decode cX6_behind 66 = .ok (.iadd, 1) := by decide +kernel
theorem dX6_behind_67 : decode cX6_behind 67 = .ok (.istore 7, 2) := by decide +kernel
theorem dX6_behind_69 : decode cX6_behind 69 = .ok (.iload 7, 2) := by decide +kernel
theorem dX6_behind_71 : decode cX6_behind 71 = .ok (.iconst 0, 1) := by decide +kernel
theorem dX6_behind_72 : decode cX6_behind 72 = .ok (.aload_n 0, 1) := by decide +kernel
theorem dX6_behind_73 : decode cX6_behind 73 = .ok (.getfield 13, 3) := by decide +kernel
theorem dX6_behind_76 : decode cX6_behind 76 = .ok (.iload 6, 2) := by decide +kernel
theorem dX6_behind_78 : decode cX6_behind 78 = .ok (.iaload, 1) := by decide +kernel
theorem dX6_behind_79 : decode cX6_behind 79 = .ok (.invokestatic 72, 3) := by decide +kernel
theorem dX6_behind_82 : decode cX6_behind 82 = .ok (.ifCond .eq 15, 3) := by decide +kernel
theorem dX6_behind_85 : decode cX6_behind 85 = .ok (.iload 4, 2) := by decide +kernel
theorem dX6_behind_87 : decode cX6_behind 87 = .ok (.iload 6, 2) := by decide +kernel
theorem dX6_behind_89 : decode cX6_behind 89 = .ok (.iload 7, 2) := by decide +kernel
theorem dX6_behind_91 : decode cX6_behind 91 = .ok (.invokestatic 126, 3) := by decide +kernel
theorem dX6_behind_94 : decode cX6_behind 94 = .ok (.goto 4, 3) := by decide +kernel
theorem dX6_behind_97 : decode cX6_behind 97 = .ok (.iconst (-1), 1) := by decide +kernel
theorem dX6_behind_98 : decode cX6_behind 98 = .ok (.ireturn, 1) := by decide +kernel
theorem dX6_isOpen_0 : decode cX6_isOpen 0 = .ok (.iload_n 1, 1) := by decide +kernel
theorem dX6_isOpen_1 : decode cX6_isOpen 1 = .ok (.iload_n 2, 1) := by decide +kernel
theorem dX6_isOpen_2 : decode cX6_isOpen 2 = .ok (.invokestatic 129, 3) := by decide +kernel
theorem dX6_isOpen_5 : decode cX6_isOpen 5 = .ok (.aload_n 0, 1) := by decide +kernel
theorem dX6_isOpen_6 : decode cX6_isOpen 6 = .ok (.iload_n 2, 1) := by decide +kernel
theorem dX6_isOpen_7 : decode cX6_isOpen 7 = .ok (.iload_n 3, 1) := by decide +kernel
theorem dX6_isOpen_8 : decode cX6_isOpen 8 = .ok (.iconst 0, 1) := by decide +kernel
theorem dX6_isOpen_9 : decode cX6_isOpen 9 = .ok (.invokevirtual 108, 3) := by decide +kernel
theorem dX6_isOpen_12 : decode cX6_isOpen 12 = .ok (.if_icmp .ne 28, 3) := by decide +kernel
theorem dX6_isOpen_15 : decode cX6_isOpen 15 = .ok (.aload_n 0, 1) := by decide +kernel
theorem dX6_isOpen_16 : decode cX6_isOpen 16 = .ok (.iload_n 1, 1) := by decide +kernel
theorem dX6_isOpen_17 : decode cX6_isOpen 17 = .ok (.iload_n 2, 1) := by decide +kernel
theorem dX6_isOpen_18 : decode cX6_isOpen 18 = .ok (.iload_n 3, 1) := by decide +kernel
theorem dX6_isOpen_19 : decode cX6_isOpen 19 = .ok (.invokevirtual 132, 3) := by decide +kernel
theorem dX6_isOpen_22 : decode cX6_isOpen 22 = .ok (.ifCond .eq 18, 3) := by decide +kernel
theorem dX6_isOpen_25 : decode cX6_isOpen 25 = .ok (.aload_n 0, 1) := by decide +kernel
theorem dX6_isOpen_26 : decode cX6_isOpen 26 = .ok (.iload_n 1, 1) := by decide +kernel
theorem dX6_isOpen_27 : decode cX6_isOpen 27 = .ok (.iload_n 2, 1) := by decide +kernel
theorem dX6_isOpen_28 : decode cX6_isOpen 28 = .ok (.iload_n 3, 1) := by decide +kernel
theorem dX6_isOpen_29 : decode cX6_isOpen 29 = .ok (.invokevirtual 135, 3) := by decide +kernel
theorem dX6_isOpen_32 : decode cX6_isOpen 32 = .ok (.iconst (-1), 1) := by decide +kernel
theorem dX6_isOpen_33 : decode cX6_isOpen 33 = .ok (.if_icmp .eq 7, 3) := by decide +kernel
theorem dX6_isOpen_36 : decode cX6_isOpen 36 = .ok (.iconst 1, 1) := by decide +kernel
theorem dX6_isOpen_37 : decode cX6_isOpen 37 = .ok (.goto 4, 3) := by decide +kernel
theorem dX6_isOpen_40 : decode cX6_isOpen 40 = .ok (.iconst 0, 1) := by decide +kernel
theorem dX6_isOpen_41 : decode cX6_isOpen 41 = .ok (.ireturn, 1) := by decide +kernel
theorem dX6_put_0 : decode cX6_put 0 = .ok (.iconst 5, 1) := by decide +kernel
theorem dX6_put_1 : decode cX6_put 1 = .ok (.newarray .int, 2) := by decide +kernel
theorem dX6_put_3 : decode cX6_put 3 = .ok (.dup, 1) := by decide +kernel
theorem dX6_put_4 : decode cX6_put 4 = .ok (.iconst 0, 1) := by decide +kernel
theorem dX6_put_5 : decode cX6_put 5 = .ok (.iload_n 1, 1) := by decide +kernel
theorem dX6_put_6 : decode cX6_put 6 = .ok (.iastore, 1) := by decide +kernel
theorem dX6_put_7 : decode cX6_put 7 = .ok (.dup, 1) := by decide +kernel
theorem dX6_put_8 : decode cX6_put 8 = .ok (.iconst 1, 1) := by decide +kernel
theorem dX6_put_9 : decode cX6_put 9 = .ok (.iload_n 2, 1) := by decide +kernel
theorem dX6_put_10 : decode cX6_put 10 = .ok (.iastore, 1) := by decide +kernel
theorem dX6_put_11 : decode cX6_put 11 = .ok (.dup, 1) := by decide +kernel
theorem dX6_put_12 : decode cX6_put 12 = .ok (.iconst 2, 1) := by decide +kernel
theorem dX6_put_13 : decode cX6_put 13 = .ok (.iload_n 3, 1) := by decide +kernel
theorem dX6_put_14 : decode cX6_put 14 = .ok (.iastore, 1) := by decide +kernel
theorem dX6_put_15 : decode cX6_put 15 = .ok (.dup, 1) := by decide +kernel
theorem dX6_put_16 : decode cX6_put 16 = .ok (.iconst 3, 1) := by decide +kernel
theorem dX6_put_17 : decode cX6_put 17 = .ok (.iload 4, 2) := by decide +kernel
theorem dX6_put_19 : decode cX6_put 19 = .ok (.iastore, 1) := by decide +kernel
theorem dX6_put_20 : decode cX6_put 20 = .ok (.dup, 1) := by decide +kernel
theorem dX6_put_21 : decode cX6_put 21 = .ok (.iconst 4, 1) := by decide +kernel
theorem dX6_put_22 : decode cX6_put 22 = .ok (.iload 5, 2) := by decide +kernel
theorem dX6_put_24 : decode cX6_put 24 = .ok (.iastore, 1) := by decide +kernel
theorem dX6_put_25 : decode cX6_put 25 = .ok (.astore 6, 2) := by decide +kernel
theorem dX6_put_27 : decode cX6_put 27 = .ok (.aload 6, 2) := by decide +kernel
theorem dX6_put_29 : decode cX6_put 29 = .ok (.iconst 0, 1) := by decide +kernel
theorem dX6_put_30 : decode cX6_put 30 = .ok (.aload_n 0, 1) := by decide +kernel
theorem dX6_put_31 : decode cX6_put 31 = .ok (.getfield 51, 3) := by decide +kernel
theorem dX6_put_34 : decode cX6_put 34 = .ok (.iconst 5, 1) := by decide +kernel
theorem dX6_put_35 : decode cX6_put 35 = .ok (.aload_n 0, 1) := by decide +kernel
theorem dX6_put_36 : decode cX6_put 36 = .ok (.getfield 138, 3) := by decide +kernel
theorem dX6_put_39 : decode cX6_put 39 = .ok (.imul, 1) := by decide +kernel
theorem dX6_put_40 : decode cX6_put 40 = .ok (.iconst 5, 1) := by decide +kernel
theorem dX6_put_41 : decode cX6_put 41 = .ok (.invokestatic 99, 3) := by decide +kernel
theorem dX6_put_44 : decode cX6_put 44 = .ok (.aload_n 0, 1) := by decide +kernel
theorem dX6_put_45 : decode cX6_put 45 = .ok (.dup, 1) := by decide +kernel
theorem dX6_put_46 : decode cX6_put 46 = .ok (.getfield 138, 3) := by decide +kernel
theorem dX6_put_49 : decode cX6_put 49 = .ok (.iconst 1, 1) := by decide +kernel
theorem dX6_put_50 : decode cX6_put 50 = .ok (.iadd, 1) := by decide +kernel
theorem dX6_put_51 : decode cX6_put 51 = .ok (.putfield 138, 3) := by decide +kernel
theorem dX6_put_54 : decode cX6_put 54 = .ok (.return_, 1) := by decide +kernel
theorem dX6_makeSteps_0 : decode cX6_makeSteps 0 = .ok (.aload_n 0, 1) := by decide +kernel
theorem dX6_makeSteps_1 : decode cX6_makeSteps 1 = .ok (.iconst 0, 1) := by decide +kernel
theorem dX6_makeSteps_2 : decode cX6_makeSteps 2 = .ok (.putfield 138, 3) := by decide +kernel
theorem dX6_makeSteps_5 : decode cX6_makeSteps 5 = .ok (.iconst 0, 1) := by decide +kernel
theorem dX6_makeSteps_6 : decode cX6_makeSteps 6 = .ok (.istore_n 2, 1) := by decide +kernel
theorem dX6_makeSteps_7 : decode cX6_makeSteps 7 = .ok (.iload_n 2, 1) := by decide +kernel
theorem dX6_makeSteps_8 : decode cX6_makeSteps 8 = .ok (.aload_n 0, 1) := by decide +kernel
theorem dX6_makeSteps_9 : decode cX6_makeSteps 9 = .ok (.getfield 69, 3) := by decide +kernel
theorem dX6_makeSteps_12 : decode cX6_makeSteps 12 = .ok (.if_icmp .ge 179, 3) := by decide +kernel
theorem dX6_makeSteps_15 : decode cX6_makeSteps 15 = .ok (.iconst 0, 1) := by decide +kernel
theorem dX6_makeSteps_16 : decode cX6_makeSteps 16 = .ok (.istore_n 3, 1) := by decide +kernel
theorem dX6_makeSteps_17 : decode cX6_makeSteps 17 = .ok (.iload_n 3, 1) := by decide +kernel
theorem dX6_makeSteps_18 : decode cX6_makeSteps 18 = .ok (.aload_n 0, 1) := by decide +kernel
theorem dX6_makeSteps_19 : decode cX6_makeSteps 19 = .ok (.getfield 19, 3) := by decide +kernel
theorem dX6_makeSteps_22 : decode cX6_makeSteps 22 = .ok (.iload_n 2, 1) := by decide +kernel
theorem dX6_makeSteps_23 : decode cX6_makeSteps 23 = .ok (.iaload, 1) := by decide +kernel
theorem dX6_makeSteps_24 : decode cX6_makeSteps 24 = .ok (.if_icmp .ge 161, 3) := by decide +kernel
theorem dX6_makeSteps_27 : decode cX6_makeSteps 27 = .ok (.aload_n 0, 1) := by decide +kernel
theorem dX6_makeSteps_28 : decode cX6_makeSteps 28 = .ok (.iload_n 1, 1) := by decide +kernel
theorem dX6_makeSteps_29 : decode cX6_makeSteps 29 = .ok (.iload_n 2, 1) := by decide +kernel
theorem dX6_makeSteps_30 : decode cX6_makeSteps 30 = .ok (.iload_n 3, 1) := by decide +kernel
theorem dX6_makeSteps_31 : decode cX6_makeSteps 31 = .ok (.invokevirtual 141, 3) := by decide +kernel
theorem dX6_makeSteps_34 : decode cX6_makeSteps 34 = .ok (.ifCond .ne 6, 3) := by decide +kernel
theorem dX6_makeSteps_37 : decode cX6_makeSteps 37 = .ok (.goto 142, 3) := by decide +kernel
theorem dX6_makeSteps_40 : decode cX6_makeSteps 40 = .ok (.aload_n 0, 1) := by decide +kernel
theorem dX6_makeSteps_41 : decode cX6_makeSteps 41 = .ok (.iload_n 1, 1) := by decide +kernel
theorem dX6_makeSteps_42 : decode cX6_makeSteps 42 = .ok (.iload_n 2, 1) := by decide +kernel
theorem dX6_makeSteps_43 : decode cX6_makeSteps 43 = .ok (.iload_n 3, 1) := by decide +kernel
theorem dX6_makeSteps_44 : decode cX6_makeSteps 44 = .ok (.invokevirtual 135, 3) := by decide +kernel
theorem dX6_makeSteps_47 : decode cX6_makeSteps 47 = .ok (.istore 4, 2) := by decide +kernel
theorem dX6_makeSteps_49 : decode cX6_makeSteps 49 = .ok (.aload_n 0, 1) := by decide +kernel
theorem dX6_makeSteps_50 : decode cX6_makeSteps 50 = .ok (.iload_n 2, 1) := by decide +kernel
theorem dX6_makeSteps_51 : decode cX6_makeSteps 51 = .ok (.iload_n 3, 1) := by decide +kernel
theorem dX6_makeSteps_52 : decode cX6_makeSteps 52 = .ok (.iconst 2, 1) := by decide +kernel
theorem dX6_makeSteps_53 : decode cX6_makeSteps 53 = .ok (.invokevirtual 108, 3) := by decide +kernel
theorem dX6_makeSteps_56 : decode cX6_makeSteps 56 = .ok (.istore 5, 2) := by decide +kernel
theorem dX6_makeSteps_58 : decode cX6_makeSteps 58 = .ok (.iload 5, 2) := by decide +kernel
theorem dX6_makeSteps_60 : decode cX6_makeSteps 60 = .ok (.ifCond .ne 13, 3) := by decide +kernel
theorem dX6_makeSteps_63 : decode cX6_makeSteps 63 = .ok (.aload_n 0, 1) := by decide +kernel
theorem dX6_makeSteps_64 : decode cX6_makeSteps 64 = .ok (.iload 4, 2) := by decide +kernel
theorem dX6_makeSteps_66 : decode cX6_makeSteps 66 = .ok (.iload_n 2, 1) := by decide +kernel
theorem dX6_makeSteps_67 : decode cX6_makeSteps 67 = .ok (.iload_n 3, 1) := by decide +kernel
theorem dX6_makeSteps_68 : decode cX6_makeSteps 68 = .ok (.iconst (-1), 1) := by decide +kernel
theorem dX6_makeSteps_69 : decode cX6_makeSteps 69 = .ok (.iconst (-1), 1) := by decide +kernel
theorem dX6_makeSteps_70 : decode cX6_makeSteps 70 = .ok (.invokevirtual 144, 3) := by decide +kernel
theorem dX6_makeSteps_73 : decode cX6_makeSteps 73 = .ok (.iload_n 2, 1) := by decide +kernel
theorem dX6_makeSteps_74 : decode cX6_makeSteps 74 = .ok (.iconst 1, 1) := by decide +kernel
theorem dX6_makeSteps_75 : decode cX6_makeSteps 75 = .ok (.iadd, 1) := by decide +kernel
theorem dX6_makeSteps_76 : decode cX6_makeSteps 76 = .ok (.istore 6, 2) := by decide +kernel
theorem dX6_makeSteps_78 : decode cX6_makeSteps 78 = .ok (.iload 6, 2) := by decide +kernel
theorem dX6_makeSteps_80 : decode cX6_makeSteps 80 = .ok (.aload_n 0, 1) := by decide +kernel
theorem dX6_makeSteps_81 : decode cX6_makeSteps 81 = .ok (.getfield 69, 3) := by decide +kernel
theorem dX6_makeSteps_84 : decode cX6_makeSteps 84 = .ok (.if_icmp .ge 95, 3) := by decide +kernel
theorem dX6_makeSteps_87 : decode cX6_makeSteps 87 = .ok (.iload 5, 2) := by decide +kernel
theorem dX6_makeSteps_89 : decode cX6_makeSteps 89 = .ok (.ifCond .le 90, 3) := by decide +kernel
theorem dX6_makeSteps_92 : decode cX6_makeSteps 92 = .ok (.iconst 0, 1) := by decide +kernel
theorem dX6_makeSteps_93 : decode cX6_makeSteps 93 = .ok (.istore 7, 2) := by decide +kernel
theorem dX6_makeSteps_95 : decode cX6_makeSteps 95 = .ok (.iload 7, 2) := by decide +kernel
theorem dX6_makeSteps_97 : decode cX6_makeSteps 97 = .ok (.aload_n 0, 1) := by decide +kernel
theorem dX6_makeSteps_98 : decode cX6_makeSteps 98 = .ok (.getfield 19, 3) := by decide +kernel
theorem dX6_makeSteps_101 : decode cX6_makeSteps 101 = .ok (.iload 6, 2) := by decide +kernel
theorem dX6_makeSteps_103 : decode cX6_makeSteps 103 = .ok (.iaload, 1) := by decide +kernel
theorem dX6_makeSteps_104 : decode cX6_makeSteps 104 = .ok (.if_icmp .ge 69, 3) := by decide +kernel
theorem dX6_makeSteps_107 : decode cX6_makeSteps 107 = .ok (.aload_n 0, 1) := by decide +kernel
theorem dX6_makeSteps_108 : decode cX6_makeSteps 108 = .ok (.iload 6, 2) := by decide +kernel
theorem dX6_makeSteps_110 : decode cX6_makeSteps 110 = .ok (.iload 7, 2) := by decide +kernel
theorem dX6_makeSteps_112 : decode cX6_makeSteps 112 = .ok (.iconst 2, 1) := by decide +kernel
theorem dX6_makeSteps_113 : decode cX6_makeSteps 113 = .ok (.invokevirtual 108, 3) := by decide +kernel
theorem dX6_makeSteps_116 : decode cX6_makeSteps 116 = .ok (.iload 5, 2) := by decide +kernel
theorem dX6_makeSteps_118 : decode cX6_makeSteps 118 = .ok (.if_icmp .ne 49, 3) := by decide +kernel
theorem dX6_makeSteps_121 : decode cX6_makeSteps 121 = .ok (.aload_n 0, 1) := by decide +kernel
theorem dX6_makeSteps_122 : decode cX6_makeSteps 122 = .ok (.iload_n 1, 1) := by decide +kernel
theorem dX6_makeSteps_123 : decode cX6_makeSteps 123 = .ok (.iload 6, 2) := by decide +kernel
theorem dX6_makeSteps_125 : decode cX6_makeSteps 125 = .ok (.iload 7, 2) := by decide +kernel
theorem dX6_makeSteps_127 : decode cX6_makeSteps 127 = .ok (.invokevirtual 141, 3) := by decide +kernel
theorem dX6_makeSteps_130 : decode cX6_makeSteps 130 = .ok (.ifCond .eq 37, 3) := by decide +kernel
theorem dX6_makeSteps_133 : decode cX6_makeSteps 133 = .ok (.aload_n 0, 1) := by decide +kernel
theorem dX6_makeSteps_134 : decode cX6_makeSteps 134 = .ok (.iload 4, 2) := by decide +kernel
theorem dX6_makeSteps_136 : decode cX6_makeSteps 136 = .ok (.iload 6, 2) := by decide +kernel
theorem dX6_makeSteps_138 : decode cX6_makeSteps 138 = .ok (.iload 7, 2) := by decide +kernel
theorem dX6_makeSteps_140 : decode cX6_makeSteps 140 = .ok (.invokevirtual 135, 3) := by decide +kernel
theorem dX6_makeSteps_143 : decode cX6_makeSteps 143 = .ok (.iconst (-1), 1) := by decide +kernel
theorem dX6_makeSteps_144 : decode cX6_makeSteps 144 = .ok (.if_icmp .eq 23, 3) := by decide +kernel
theorem dX6_makeSteps_147 : decode cX6_makeSteps 147 = .ok (.aload_n 0, 1) := by decide +kernel
theorem dX6_makeSteps_148 : decode cX6_makeSteps 148 = .ok (.aload_n 0, 1) := by decide +kernel
theorem dX6_makeSteps_149 : decode cX6_makeSteps 149 = .ok (.iload 4, 2) := by decide +kernel
theorem dX6_makeSteps_151 : decode cX6_makeSteps 151 = .ok (.iload 6, 2) := by decide +kernel
theorem dX6_makeSteps_153 : decode cX6_makeSteps 153 = .ok (.iload 7, 2) := by decide +kernel
theorem dX6_makeSteps_155 : decode cX6_makeSteps 155 = .ok (.invokevirtual 135, 3) := by decide +kernel
theorem dX6_makeSteps_158 : decode cX6_makeSteps 158 = .ok (.iload_n 2, 1) := by decide +kernel
theorem dX6_makeSteps_159 : decode cX6_makeSteps 159 = .ok (.iload_n 3, 1) := by decide +kernel
theorem dX6_makeSteps_160 : decode cX6_makeSteps 160 = .ok (.iload 6, 2) := by decide +kernel
theorem dX6_makeSteps_162 : decode cX6_makeSteps 162 = .ok (.iload 7, 2) := by decide +kernel
theorem dX6_makeSteps_164 : decode cX6_makeSteps 164 = .ok (.invokevirtual 144, 3) := by decide +kernel
theorem dX6_makeSteps_167 : decode cX6_makeSteps 167 = .ok (.iinc 7 1, 3) := by decide +kernel
theorem dX6_makeSteps_170 : decode cX6_makeSteps 170 = .ok (.goto (-75), 3) := by decide +kernel
theorem dX6_makeSteps_173 : decode cX6_makeSteps 173 = .ok (.iinc 6 1, 3) := by decide +kernel
theorem dX6_makeSteps_176 : decode cX6_makeSteps 176 = .ok (.goto (-98), 3) := by decide +kernel
theorem dX6_makeSteps_179 : decode cX6_makeSteps 179 = .ok (.iinc 3 1, 3) := by decide +kernel
theorem dX6_makeSteps_182 : decode cX6_makeSteps 182 = .ok (.goto (-165), 3) := by decide +kernel
theorem dX6_makeSteps_185 : decode cX6_makeSteps 185 = .ok (.iinc 2 1, 3) := by decide +kernel
theorem dX6_makeSteps_188 : decode cX6_makeSteps 188 = .ok (.goto (-181), 3) := by decide +kernel
theorem dX6_makeSteps_191 : decode cX6_makeSteps 191 = .ok (.return_, 1) := by decide +kernel
theorem dX6_slot_0 : decode cX6_slot 0 = .ok (.iload_n 1, 1) := by decide +kernel
theorem dX6_slot_1 : decode cX6_slot 1 = .ok (.iload_n 1, 1) := by decide +kernel
theorem dX6_slot_2 : decode cX6_slot 2 = .ok (.bipush 11, 2) := by decide +kernel
theorem dX6_slot_4 : decode cX6_slot 4 = .ok (.iushr, 1) := by decide +kernel
theorem dX6_slot_5 : decode cX6_slot 5 = .ok (.ixor, 1) := by decide +kernel
theorem dX6_slot_6 : decode cX6_slot 6 = .ok (.iload_n 1, 1) := by decide +kernel
theorem dX6_slot_7 : decode cX6_slot 7 = .ok (.bipush 22, 2) := by decide +kernel
theorem dX6_slot_9 : decode cX6_slot 9 = .ok (.iushr, 1) := by decide +kernel
theorem dX6_slot_10 : decode cX6_slot 10 = .ok (.ixor, 1) := by decide +kernel
theorem dX6_slot_11 : decode cX6_slot 11 = .ok (.sipush 1023, 3) := by decide +kernel
theorem dX6_slot_14 : decode cX6_slot 14 = .ok (.iand, 1) := by decide +kernel
theorem dX6_slot_15 : decode cX6_slot 15 = .ok (.istore_n 2, 1) := by decide +kernel
theorem dX6_slot_16 : decode cX6_slot 16 = .ok (.aload_n 0, 1) := by decide +kernel
theorem dX6_slot_17 : decode cX6_slot 17 = .ok (.getfield 31, 3) := by decide +kernel
theorem dX6_slot_20 : decode cX6_slot 20 = .ok (.iload_n 2, 1) := by decide +kernel
theorem dX6_slot_21 : decode cX6_slot 21 = .ok (.iaload, 1) := by decide +kernel
theorem dX6_slot_22 : decode cX6_slot 22 = .ok (.ifCond .eq 31, 3) := by decide +kernel
theorem dX6_slot_25 : decode cX6_slot 25 = .ok (.aload_n 0, 1) := by decide +kernel
theorem dX6_slot_26 : decode cX6_slot 26 = .ok (.getfield 28, 3) := by decide +kernel
theorem dX6_slot_29 : decode cX6_slot 29 = .ok (.aload_n 0, 1) := by decide +kernel
theorem dX6_slot_30 : decode cX6_slot 30 = .ok (.getfield 31, 3) := by decide +kernel
theorem dX6_slot_33 : decode cX6_slot 33 = .ok (.iload_n 2, 1) := by decide +kernel
theorem dX6_slot_34 : decode cX6_slot 34 = .ok (.iaload, 1) := by decide +kernel
theorem dX6_slot_35 : decode cX6_slot 35 = .ok (.iconst 1, 1) := by decide +kernel
theorem dX6_slot_36 : decode cX6_slot 36 = .ok (.isub, 1) := by decide +kernel
theorem dX6_slot_37 : decode cX6_slot 37 = .ok (.iaload, 1) := by decide +kernel
theorem dX6_slot_38 : decode cX6_slot 38 = .ok (.iload_n 1, 1) := by decide +kernel
theorem dX6_slot_39 : decode cX6_slot 39 = .ok (.if_icmp .eq 14, 3) := by decide +kernel
theorem dX6_slot_42 : decode cX6_slot 42 = .ok (.iload_n 2, 1) := by decide +kernel
theorem dX6_slot_43 : decode cX6_slot 43 = .ok (.iconst 1, 1) := by decide +kernel
theorem dX6_slot_44 : decode cX6_slot 44 = .ok (.iadd, 1) := by decide +kernel
theorem dX6_slot_45 : decode cX6_slot 45 = .ok (.sipush 1024, 3) := by decide +kernel
theorem dX6_slot_48 : decode cX6_slot 48 = .ok (.irem, 1) := by decide +kernel
theorem dX6_slot_49 : decode cX6_slot 49 = .ok (.istore_n 2, 1) := by decide +kernel
theorem dX6_slot_50 : decode cX6_slot 50 = .ok (.goto (-34), 3) := by decide +kernel
theorem dX6_slot_53 : decode cX6_slot 53 = .ok (.iload_n 2, 1) := by decide +kernel
theorem dX6_slot_54 : decode cX6_slot 54 = .ok (.ireturn, 1) := by decide +kernel
theorem dX6_number_0 : decode cX6_number 0 = .ok (.aload_n 0, 1) := by decide +kernel
theorem dX6_number_1 : decode cX6_number 1 = .ok (.getfield 31, 3) := by decide +kernel
theorem dX6_number_4 : decode cX6_number 4 = .ok (.aload_n 0, 1) := by decide +kernel
theorem dX6_number_5 : decode cX6_number 5 = .ok (.iload_n 1, 1) := by decide +kernel
theorem dX6_number_6 : decode cX6_number 6 = .ok (.invokevirtual 148, 3) := by decide +kernel
theorem dX6_number_9 : decode cX6_number 9 = .ok (.iaload, 1) := by decide +kernel
theorem dX6_number_10 : decode cX6_number 10 = .ok (.iconst 1, 1) := by decide +kernel
theorem dX6_number_11 : decode cX6_number 11 = .ok (.isub, 1) := by decide +kernel
theorem dX6_number_12 : decode cX6_number 12 = .ok (.ireturn, 1) := by decide +kernel
theorem dX6_add_0 : decode cX6_add 0 = .ok (.aload_n 0, 1) := by decide +kernel
theorem dX6_add_1 : decode cX6_add 1 = .ok (.getfield 28, 3) := by decide +kernel
theorem dX6_add_4 : decode cX6_add 4 = .ok (.aload_n 0, 1) := by decide +kernel
theorem dX6_add_5 : decode cX6_add 5 = .ok (.getfield 82, 3) := by decide +kernel
theorem dX6_add_8 : decode cX6_add 8 = .ok (.iload_n 1, 1) := by decide +kernel
theorem dX6_add_9 : decode cX6_add 9 = .ok (.iastore, 1) := by decide +kernel
theorem dX6_add_10 : decode cX6_add 10 = .ok (.aload_n 0, 1) := by decide +kernel
theorem dX6_add_11 : decode cX6_add 11 = .ok (.getfield 34, 3) := by decide +kernel
theorem dX6_add_14 : decode cX6_add 14 = .ok (.aload_n 0, 1) := by decide +kernel
theorem dX6_add_15 : decode cX6_add 15 = .ok (.getfield 82, 3) := by decide +kernel
theorem dX6_add_18 : decode cX6_add 18 = .ok (.iload_n 2, 1) := by decide +kernel
theorem dX6_add_19 : decode cX6_add 19 = .ok (.iastore, 1) := by decide +kernel
theorem dX6_add_20 : decode cX6_add 20 = .ok (.aload_n 0, 1) := by decide +kernel
theorem dX6_add_21 : decode cX6_add 21 = .ok (.getfield 37, 3) := by decide +kernel
theorem dX6_add_24 : decode cX6_add 24 = .ok (.aload_n 0, 1) := by decide +kernel
theorem dX6_add_25 : decode cX6_add 25 = .ok (.getfield 82, 3) := by decide +kernel
theorem dX6_add_28 : decode cX6_add 28 = .ok (.iload_n 3, 1) := by decide +kernel
theorem dX6_add_29 : decode cX6_add 29 = .ok (.iastore, 1) := by decide +kernel
theorem dX6_add_30 : decode cX6_add 30 = .ok (.aload_n 0, 1) := by decide +kernel
theorem dX6_add_31 : decode cX6_add 31 = .ok (.getfield 40, 3) := by decide +kernel
theorem dX6_add_34 : decode cX6_add 34 = .ok (.aload_n 0, 1) := by decide +kernel
theorem dX6_add_35 : decode cX6_add 35 = .ok (.getfield 82, 3) := by decide +kernel
theorem dX6_add_38 : decode cX6_add 38 = .ok (.iload_n 2, 1) := by decide +kernel
theorem dX6_add_39 : decode cX6_add 39 = .ok (.iconst (-1), 1) := by decide +kernel
theorem dX6_add_40 : decode cX6_add 40 = .ok (.if_icmp .ne 7, 3) := by decide +kernel
theorem dX6_add_43 : decode cX6_add 43 = .ok (.iconst 0, 1) := by decide +kernel
theorem dX6_add_44 : decode cX6_add 44 = .ok (.goto 11, 3) := by decide +kernel
theorem dX6_add_47 : decode cX6_add 47 = .ok (.aload_n 0, 1) := by decide +kernel
theorem dX6_add_48 : decode cX6_add 48 = .ok (.getfield 40, 3) := by decide +kernel
theorem dX6_add_51 : decode cX6_add 51 = .ok (.iload_n 2, 1) := by decide +kernel
theorem dX6_add_52 : decode cX6_add 52 = .ok (.iaload, 1) := by decide +kernel
theorem dX6_add_53 : decode cX6_add 53 = .ok (.iconst 1, 1) := by decide +kernel
theorem dX6_add_54 : decode cX6_add 54 = .ok (.iadd, 1) := by decide +kernel
theorem dX6_add_55 : decode cX6_add 55 = .ok (.iastore, 1) := by decide +kernel
theorem dX6_add_56 : decode cX6_add 56 = .ok (.aload_n 0, 1) := by decide +kernel
theorem dX6_add_57 : decode cX6_add 57 = .ok (.dup, 1) := by decide +kernel
theorem dX6_add_58 : decode cX6_add 58 = .ok (.getfield 82, 3) := by decide +kernel
theorem dX6_add_61 : decode cX6_add 61 = .ok (.iconst 1, 1) := by decide +kernel
theorem dX6_add_62 : decode cX6_add 62 = .ok (.iadd, 1) := by decide +kernel
theorem dX6_add_63 : decode cX6_add 63 = .ok (.putfield 82, 3) := by decide +kernel
theorem dX6_add_66 : decode cX6_add 66 = .ok (.aload_n 0, 1) := by decide +kernel
theorem dX6_add_67 : decode cX6_add 67 = .ok (.getfield 31, 3) := by decide +kernel
theorem dX6_add_70 : decode cX6_add 70 = .ok (.aload_n 0, 1) := by decide +kernel
theorem dX6_add_71 : decode cX6_add 71 = .ok (.iload_n 1, 1) := by decide +kernel
theorem dX6_add_72 : decode cX6_add 72 = .ok (.invokevirtual 148, 3) := by decide +kernel
theorem dX6_add_75 : decode cX6_add 75 = .ok (.aload_n 0, 1) := by decide +kernel
theorem dX6_add_76 : decode cX6_add 76 = .ok (.getfield 82, 3) := by decide +kernel
theorem dX6_add_79 : decode cX6_add 79 = .ok (.iastore, 1) := by decide +kernel
theorem dX6_add_80 : decode cX6_add 80 = .ok (.return_, 1) := by decide +kernel
theorem dX6_set__0 : decode cX6_set_ 0 = .ok (.aload_n 0, 1) := by decide +kernel
theorem dX6_set__1 : decode cX6_set_ 1 = .ok (.bipush 7, 2) := by decide +kernel
theorem dX6_set__3 : decode cX6_set_ 3 = .ok (.iload_n 1, 1) := by decide +kernel
theorem dX6_set__4 : decode cX6_set_ 4 = .ok (.imul, 1) := by decide +kernel
theorem dX6_set__5 : decode cX6_set_ 5 = .ok (.iload_n 2, 1) := by decide +kernel
theorem dX6_set__6 : decode cX6_set_ 6 = .ok (.bipush 64, 2) := by decide +kernel
theorem dX6_set__8 : decode cX6_set_ 8 = .ok (.idiv, 1) := by decide +kernel
theorem dX6_set__9 : decode cX6_set_ 9 = .ok (.iadd, 1) := by decide +kernel
theorem dX6_set__10 : decode cX6_set_ 10 = .ok (.dup2, 1) := by decide +kernel
theorem dX6_set__11 : decode cX6_set_ 11 = .ok (.laload, 1) := by decide +kernel
theorem dX6_set__12 : decode cX6_set_ 12 = .ok (.lconst 1, 1) := by decide +kernel
theorem dX6_set__13 : decode cX6_set_ 13 = .ok (.iload_n 2, 1) := by decide +kernel
theorem dX6_set__14 : decode cX6_set_ 14 = .ok (.lshl, 1) := by decide +kernel
theorem dX6_set__15 : decode cX6_set_ 15 = .ok (.lor, 1) := by decide +kernel
theorem dX6_set__16 : decode cX6_set_ 16 = .ok (.lastore, 1) := by decide +kernel
theorem dX6_set__17 : decode cX6_set_ 17 = .ok (.return_, 1) := by decide +kernel
theorem dX6_has_0 : decode cX6_has 0 = .ok (.aload_n 0, 1) := by decide +kernel
theorem dX6_has_1 : decode cX6_has 1 = .ok (.bipush 7, 2) := by decide +kernel
theorem dX6_has_3 : decode cX6_has 3 = .ok (.iload_n 1, 1) := by decide +kernel
theorem dX6_has_4 : decode cX6_has 4 = .ok (.imul, 1) := by decide +kernel
theorem dX6_has_5 : decode cX6_has 5 = .ok (.iload_n 2, 1) := by decide +kernel
theorem dX6_has_6 : decode cX6_has 6 = .ok (.bipush 64, 2) := by decide +kernel
theorem dX6_has_8 : decode cX6_has 8 = .ok (.idiv, 1) := by decide +kernel
theorem dX6_has_9 : decode cX6_has 9 = .ok (.iadd, 1) := by decide +kernel
theorem dX6_has_10 : decode cX6_has 10 = .ok (.laload, 1) := by decide +kernel
theorem dX6_has_11 : decode cX6_has 11 = .ok (.iload_n 2, 1) := by decide +kernel
theorem dX6_has_12 : decode cX6_has 12 = .ok (.lushr, 1) := by decide +kernel
theorem dX6_has_13 : decode cX6_has 13 = .ok (.lconst 1, 1) := by decide +kernel
theorem dX6_has_14 : decode cX6_has 14 = .ok (.land, 1) := by decide +kernel
theorem dX6_has_15 : decode cX6_has 15 = .ok (.lconst 1, 1) := by decide +kernel
theorem dX6_has_16 : decode cX6_has 16 = .ok (.lcmp, 1) := by decide +kernel
theorem dX6_has_17 : decode cX6_has 17 = .ok (.ifCond .ne 7, 3) := by decide +kernel
theorem dX6_has_20 : decode cX6_has 20 = .ok (.iconst 1, 1) := by decide +kernel
theorem dX6_has_21 : decode cX6_has 21 = .ok (.goto 4, 3) := by decide +kernel
theorem dX6_has_24 : decode cX6_has 24 = .ok (.iconst 0, 1) := by decide +kernel
theorem dX6_has_25 : decode cX6_has 25 = .ok (.ireturn, 1) := by decide +kernel
theorem dX6_explore_0 : decode cX6_explore 0 = .ok (.aload_n 0, 1) := by decide +kernel
theorem dX6_explore_1 : decode cX6_explore 1 = .ok (.iconst 0, 1) := by decide +kernel
theorem dX6_explore_2 : decode cX6_explore 2 = .ok (.putfield 65, 3) := by decide +kernel
theorem dX6_explore_5 : decode cX6_explore 5 = .ok (.aload_n 0, 1) := by decide +kernel
theorem dX6_explore_6 : decode cX6_explore 6 = .ok (.getfield 69, 3) := by decide +kernel
theorem dX6_explore_9 : decode cX6_explore 9 = .ok (.ifCond .ne 9, 3) := by decide +kernel
theorem dX6_explore_12 : decode cX6_explore 12 = .ok (.aload_n 0, 1) := by decide +kernel
theorem dX6_explore_13 : decode cX6_explore 13 = .ok (.iconst 1, 1) := by decide +kernel
theorem dX6_explore_14 : decode cX6_explore 14 = .ok (.invokevirtual 88, 3) := by decide +kernel
theorem dX6_explore_17 : decode cX6_explore 17 = .ok (.ireturn, 1) := by decide +kernel
theorem dX6_explore_18 : decode cX6_explore 18 = .ok (.aload_n 0, 1) := by decide +kernel
theorem dX6_explore_19 : decode cX6_explore 19 = .ok (.invokevirtual 92, 3) := by decide +kernel
theorem dX6_explore_22 : decode cX6_explore 22 = .ok (.iconst 0, 1) := by decide +kernel
theorem dX6_explore_23 : decode cX6_explore 23 = .ok (.istore_n 1, 1) := by decide +kernel
theorem dX6_explore_24 : decode cX6_explore 24 = .ok (.iload_n 1, 1) := by decide +kernel
theorem dX6_explore_25 : decode cX6_explore 25 = .ok (.sipush 1024, 3) := by decide +kernel
theorem dX6_explore_28 : decode cX6_explore 28 = .ok (.if_icmp .ge 16, 3) := by decide +kernel
theorem dX6_explore_31 : decode cX6_explore 31 = .ok (.aload_n 0, 1) := by decide +kernel
theorem dX6_explore_32 : decode cX6_explore 32 = .ok (.getfield 31, 3) := by decide +kernel
theorem dX6_explore_35 : decode cX6_explore 35 = .ok (.iload_n 1, 1) := by decide +kernel
theorem dX6_explore_36 : decode cX6_explore 36 = .ok (.iconst 0, 1) := by decide +kernel
theorem dX6_explore_37 : decode cX6_explore 37 = .ok (.iastore, 1) := by decide +kernel
theorem dX6_explore_38 : decode cX6_explore 38 = .ok (.iinc 1 1, 3) := by decide +kernel
theorem dX6_explore_41 : decode cX6_explore 41 = .ok (.goto (-17), 3) := by decide +kernel
theorem dX6_explore_44 : decode cX6_explore 44 = .ok (.iconst 0, 1) := by decide +kernel
theorem dX6_explore_45 : decode cX6_explore 45 = .ok (.istore_n 1, 1) := by decide +kernel
theorem dX6_explore_46 : decode cX6_explore 46 = .ok (.iload_n 1, 1) := by decide +kernel
theorem dX6_explore_47 : decode cX6_explore 47 = .ok (.iconst 5, 1) := by decide +kernel
theorem dX6_explore_48 : decode cX6_explore 48 = .ok (.if_icmp .ge 33, 3) := by decide +kernel
theorem dX6_explore_51 : decode cX6_explore 51 = .ok (.iconst 0, 1) := by decide +kernel
theorem dX6_explore_52 : decode cX6_explore 52 = .ok (.istore_n 2, 1) := by decide +kernel
theorem dX6_explore_53 : decode cX6_explore 53 = .ok (.iload_n 2, 1) := by decide +kernel
theorem dX6_explore_54 : decode cX6_explore 54 = .ok (.sipush 2800, 3) := by decide +kernel
theorem dX6_explore_57 : decode cX6_explore 57 = .ok (.if_icmp .ge 18, 3) := by decide +kernel
theorem dX6_explore_60 : decode cX6_explore 60 = .ok (.aload_n 0, 1) := by decide +kernel
theorem dX6_explore_61 : decode cX6_explore 61 = .ok (.getfield 48, 3) := by decide +kernel
theorem dX6_explore_64 : decode cX6_explore 64 = .ok (.iload_n 1, 1) := by decide +kernel
theorem dX6_explore_65 : decode cX6_explore 65 = .ok (.aaload, 1) := by decide +kernel
theorem dX6_explore_66 : decode cX6_explore 66 = .ok (.iload_n 2, 1) := by decide +kernel
theorem dX6_explore_67 : decode cX6_explore 67 = .ok (.lconst 0, 1) := by decide +kernel
theorem dX6_explore_68 : decode cX6_explore 68 = .ok (.lastore, 1) := by decide +kernel
theorem dX6_explore_69 : decode cX6_explore 69 = .ok (.iinc 2 1, 3) := by decide +kernel
theorem dX6_explore_72 : decode cX6_explore 72 = .ok (.goto (-19), 3) := by decide +kernel
theorem dX6_explore_75 : decode cX6_explore 75 = .ok (.iinc 1 1, 3) := by decide +kernel
theorem dX6_explore_78 : decode cX6_explore 78 = .ok (.goto (-32), 3) := by decide +kernel
theorem dX6_explore_81 : decode cX6_explore 81 = .ok (.iconst 0, 1) := by decide +kernel
theorem dX6_explore_82 : decode cX6_explore 82 = .ok (.istore_n 1, 1) := by decide +kernel
theorem dX6_explore_83 : decode cX6_explore 83 = .ok (.iconst 0, 1) := by decide +kernel
theorem dX6_explore_84 : decode cX6_explore 84 = .ok (.istore_n 2, 1) := by decide +kernel
theorem dX6_explore_85 : decode cX6_explore 85 = .ok (.iload_n 2, 1) := by decide +kernel
theorem dX6_explore_86 : decode cX6_explore 86 = .ok (.aload_n 0, 1) := by decide +kernel
theorem dX6_explore_87 : decode cX6_explore 87 = .ok (.getfield 76, 3) := by decide +kernel
theorem dX6_explore_90 : decode cX6_explore 90 = .ok (.if_icmp .ge 21, 3) := by decide +kernel
theorem dX6_explore_93 : decode cX6_explore 93 = .ok (.iload_n 1, 1) := by decide +kernel
theorem dX6_explore_94 : decode cX6_explore 94 = .ok (.iload_n 2, 1) := by decide +kernel
theorem dX6_explore_95 : decode cX6_explore 95 = .ok (.aload_n 0, 1) := by decide +kernel
theorem dX6_explore_96 : decode cX6_explore 96 = .ok (.getfield 16, 3) := by decide +kernel
theorem dX6_explore_99 : decode cX6_explore 99 = .ok (.iload_n 2, 1) := by decide +kernel
theorem dX6_explore_100 : decode cX6_explore 100 = .ok (.iaload, 1) := by decide +kernel
theorem dX6_explore_101 : decode cX6_explore 101 = .ok (.invokestatic 126, 3) := by decide +kernel
theorem dX6_explore_104 : decode cX6_explore 104 = .ok (.istore_n 1, 1) := by decide +kernel
theorem dX6_explore_105 : decode cX6_explore 105 = .ok (.iinc 2 1, 3) := by decide +kernel
theorem dX6_explore_108 : decode cX6_explore 108 = .ok (.goto (-23), 3) := by decide +kernel
theorem dX6_explore_111 : decode cX6_explore 111 = .ok (.aload_n 0, 1) := by decide +kernel
theorem dX6_explore_112 : decode cX6_explore 112 = .ok (.iload_n 1, 1) := by decide +kernel
theorem dX6_explore_113 : decode cX6_explore 113 = .ok (.iconst (-1), 1) := by decide +kernel
theorem dX6_explore_114 : decode cX6_explore 114 = .ok (.iconst (-1), 1) := by decide +kernel
theorem dX6_explore_115 : decode cX6_explore 115 = .ok (.invokevirtual 151, 3) := by decide +kernel
theorem dX6_explore_118 : decode cX6_explore 118 = .ok (.iconst 0, 1) := by decide +kernel
theorem dX6_explore_119 : decode cX6_explore 119 = .ok (.istore_n 2, 1) := by decide +kernel
theorem dX6_explore_120 : decode cX6_explore 120 = .ok (.iload_n 2, 1) := by decide +kernel
theorem dX6_explore_121 : decode cX6_explore 121 = .ok (.aload_n 0, 1) := by decide +kernel
theorem dX6_explore_122 : decode cX6_explore 122 = .ok (.getfield 82, 3) := by decide +kernel
theorem dX6_explore_125 : decode cX6_explore 125 = .ok (.if_icmp .ge 190, 3) := by decide +kernel
theorem dX6_explore_128 : decode cX6_explore 128 = .ok (.aload_n 0, 1) := by decide +kernel
theorem dX6_explore_129 : decode cX6_explore 129 = .ok (.aload_n 0, 1) := by decide +kernel
theorem dX6_explore_130 : decode cX6_explore 130 = .ok (.getfield 28, 3) := by decide +kernel
theorem dX6_explore_133 : decode cX6_explore 133 = .ok (.iload_n 2, 1) := by decide +kernel
theorem dX6_explore_134 : decode cX6_explore 134 = .ok (.iaload, 1) := by decide +kernel
theorem dX6_explore_135 : decode cX6_explore 135 = .ok (.invokevirtual 155, 3) := by decide +kernel
theorem dX6_explore_138 : decode cX6_explore 138 = .ok (.aload_n 0, 1) := by decide +kernel
theorem dX6_explore_139 : decode cX6_explore 139 = .ok (.getfield 43, 3) := by decide +kernel
theorem dX6_explore_142 : decode cX6_explore 142 = .ok (.iload_n 2, 1) := by decide +kernel
theorem dX6_explore_143 : decode cX6_explore 143 = .ok (.aload_n 0, 1) := by decide +kernel
theorem dX6_explore_144 : decode cX6_explore 144 = .ok (.getfield 138, 3) := by decide +kernel
theorem dX6_explore_147 : decode cX6_explore 147 = .ok (.iastore, 1) := by decide +kernel
theorem dX6_explore_148 : decode cX6_explore 148 = .ok (.aload_n 0, 1) := by decide +kernel
theorem dX6_explore_149 : decode cX6_explore 149 = .ok (.dup, 1) := by decide +kernel
theorem dX6_explore_150 : decode cX6_explore 150 = .ok (.getfield 85, 3) := by decide +kernel
theorem dX6_explore_153 : decode cX6_explore 153 = .ok (.aload_n 0, 1) := by decide +kernel
theorem dX6_explore_154 : decode cX6_explore 154 = .ok (.getfield 138, 3) := by decide +kernel
theorem dX6_explore_157 : decode cX6_explore 157 = .ok (.iadd, 1) := by decide +kernel
theorem dX6_explore_158 : decode cX6_explore 158 = .ok (.putfield 85, 3) := by decide +kernel
theorem dX6_explore_161 : decode cX6_explore 161 = .ok (.iconst 0, 1) := by decide +kernel
theorem dX6_explore_162 : decode cX6_explore 162 = .ok (.istore_n 3, 1) := by decide +kernel
theorem dX6_explore_163 : decode cX6_explore 163 = .ok (.iload_n 3, 1) := by decide +kernel
theorem dX6_explore_164 : decode cX6_explore 164 = .ok (.aload_n 0, 1) := by decide +kernel
theorem dX6_explore_165 : decode cX6_explore 165 = .ok (.getfield 138, 3) := by decide +kernel
theorem dX6_explore_168 : decode cX6_explore 168 = .ok (.if_icmp .ge 141, 3) := by decide +kernel
theorem dX6_explore_171 : decode cX6_explore 171 = .ok (.aload_n 0, 1) := by decide +kernel
theorem dX6_explore_172 : decode cX6_explore 172 = .ok (.aload_n 0, 1) := by decide +kernel
theorem dX6_explore_173 : decode cX6_explore 173 = .ok (.getfield 51, 3) := by decide +kernel
theorem dX6_explore_176 : decode cX6_explore 176 = .ok (.iconst 5, 1) := by decide +kernel
theorem dX6_explore_177 : decode cX6_explore 177 = .ok (.iload_n 3, 1) := by decide +kernel
theorem dX6_explore_178 : decode cX6_explore 178 = .ok (.imul, 1) := by decide +kernel
theorem dX6_explore_179 : decode cX6_explore 179 = .ok (.iaload, 1) := by decide +kernel
theorem dX6_explore_180 : decode cX6_explore 180 = .ok (.invokevirtual 159, 3) := by decide +kernel
theorem dX6_explore_183 : decode cX6_explore 183 = .ok (.iconst (-1), 1) := by decide +kernel
theorem dX6_explore_184 : decode cX6_explore 184 = .ok (.if_icmp .ne 19, 3) := by decide +kernel
theorem dX6_explore_187 : decode cX6_explore 187 = .ok (.aload_n 0, 1) := by decide +kernel
theorem dX6_explore_188 : decode cX6_explore 188 = .ok (.getfield 82, 3) := by decide +kernel
theorem dX6_explore_191 : decode cX6_explore 191 = .ok (.sipush 400, 3) := by decide +kernel
theorem dX6_explore_194 : decode cX6_explore 194 = .ok (.if_icmp .ne 9, 3) := by decide +kernel
theorem dX6_explore_197 : decode cX6_explore 197 = .ok (.aload_n 0, 1) := by decide +kernel
theorem dX6_explore_198 : decode cX6_explore 198 = .ok (.invokevirtual 92, 3) := by decide +kernel
theorem dX6_explore_201 : decode cX6_explore 201 = .ok (.iconst (-1), 1) := by decide +kernel
theorem dX6_explore_202 : decode cX6_explore 202 = .ok (.ireturn, 1) := by decide +kernel
theorem dX6_explore_203 : decode cX6_explore 203 = .ok (.aload_n 0, 1) := by decide +kernel
theorem dX6_explore_204 : decode cX6_explore 204 = .ok (.aload_n 0, 1) := by decide +kernel
theorem dX6_explore_205 : decode cX6_explore 205 = .ok (.getfield 51, 3) := by decide +kernel
theorem dX6_explore_208 : decode cX6_explore 208 = .ok (.iconst 5, 1) := by decide +kernel
theorem dX6_explore_209 : decode cX6_explore 209 = .ok (.iload_n 3, 1) := by decide +kernel
theorem dX6_explore_210 : decode cX6_explore 210 = .ok (.imul, 1) := by decide +kernel
theorem dX6_explore_211 : decode cX6_explore 211 = .ok (.iaload, 1) := by decide +kernel
theorem dX6_explore_212 : decode cX6_explore 212 = .ok (.invokevirtual 159, 3) := by decide +kernel
theorem dX6_explore_215 : decode cX6_explore 215 = .ok (.iconst (-1), 1) := by decide +kernel
theorem dX6_explore_216 : decode cX6_explore 216 = .ok (.if_icmp .ne 17, 3) := by decide +kernel
theorem dX6_explore_219 : decode cX6_explore 219 = .ok (.aload_n 0, 1) := by decide +kernel
theorem dX6_explore_220 : decode cX6_explore 220 = .ok (.aload_n 0, 1) := by decide +kernel
theorem dX6_explore_221 : decode cX6_explore 221 = .ok (.getfield 51, 3) := by decide +kernel
theorem dX6_explore_224 : decode cX6_explore 224 = .ok (.iconst 5, 1) := by decide +kernel
theorem dX6_explore_225 : decode cX6_explore 225 = .ok (.iload_n 3, 1) := by decide +kernel
theorem dX6_explore_226 : decode cX6_explore 226 = .ok (.imul, 1) := by decide +kernel
theorem dX6_explore_227 : decode cX6_explore 227 = .ok (.iaload, 1) := by decide +kernel
theorem dX6_explore_228 : decode cX6_explore 228 = .ok (.iload_n 2, 1) := by decide +kernel
theorem dX6_explore_229 : decode cX6_explore 229 = .ok (.iload_n 3, 1) := by decide +kernel
theorem dX6_explore_230 : decode cX6_explore 230 = .ok (.invokevirtual 151, 3) := by decide +kernel
theorem dX6_explore_233 : decode cX6_explore 233 = .ok (.aload_n 0, 1) := by decide +kernel
theorem dX6_explore_234 : decode cX6_explore 234 = .ok (.aload_n 0, 1) := by decide +kernel
theorem dX6_explore_235 : decode cX6_explore 235 = .ok (.getfield 51, 3) := by decide +kernel
theorem dX6_explore_238 : decode cX6_explore 238 = .ok (.iconst 5, 1) := by decide +kernel
theorem dX6_explore_239 : decode cX6_explore 239 = .ok (.iload_n 3, 1) := by decide +kernel
theorem dX6_explore_240 : decode cX6_explore 240 = .ok (.imul, 1) := by decide +kernel
theorem dX6_explore_241 : decode cX6_explore 241 = .ok (.iaload, 1) := by decide +kernel
theorem dX6_explore_242 : decode cX6_explore 242 = .ok (.invokevirtual 159, 3) := by decide +kernel
theorem dX6_explore_245 : decode cX6_explore 245 = .ok (.istore 4, 2) := by decide +kernel
theorem dX6_explore_247 : decode cX6_explore 247 = .ok (.aload_n 0, 1) := by decide +kernel
theorem dX6_explore_248 : decode cX6_explore 248 = .ok (.getfield 48, 3) := by decide +kernel
theorem dX6_explore_251 : decode cX6_explore 251 = .ok (.aload_n 0, 1) := by decide +kernel
theorem dX6_explore_252 : decode cX6_explore 252 = .ok (.getfield 51, 3) := by decide +kernel
theorem dX6_explore_255 : decode cX6_explore 255 = .ok (.iconst 5, 1) := by decide +kernel
theorem dX6_explore_256 : decode cX6_explore 256 = .ok (.iload_n 3, 1) := by decide +kernel
theorem dX6_explore_257 : decode cX6_explore 257 = .ok (.imul, 1) := by decide +kernel
theorem dX6_explore_258 : decode cX6_explore 258 = .ok (.iconst 1, 1) := by decide +kernel
theorem dX6_explore_259 : decode cX6_explore 259 = .ok (.iadd, 1) := by decide +kernel
theorem dX6_explore_260 : decode cX6_explore 260 = .ok (.iaload, 1) := by decide +kernel
theorem dX6_explore_261 : decode cX6_explore 261 = .ok (.aaload, 1) := by decide +kernel
theorem dX6_explore_262 : decode cX6_explore 262 = .ok (.iload_n 2, 1) := by decide +kernel
theorem dX6_explore_263 : decode cX6_explore 263 = .ok (.iload 4, 2) := by decide +kernel
theorem dX6_explore_265 : decode cX6_explore 265 = .ok (.invokestatic 162, 3) := by decide +kernel
theorem dX6_explore_268 : decode cX6_explore 268 = .ok (.aload_n 0, 1) := by decide +kernel
theorem dX6_explore_269 : decode cX6_explore 269 = .ok (.getfield 51, 3) := by decide +kernel
theorem dX6_explore_272 : decode cX6_explore 272 = .ok (.iconst 5, 1) := by decide +kernel
theorem dX6_explore_273 : decode cX6_explore 273 = .ok (.iload_n 3, 1) := by decide +kernel
theorem dX6_explore_274 : decode cX6_explore 274 = .ok (.imul, 1) := by decide +kernel
theorem dX6_explore_275 : decode cX6_explore 275 = .ok (.iconst 3, 1) := by decide +kernel
theorem dX6_explore_276 : decode cX6_explore 276 = .ok (.iadd, 1) := by decide +kernel
theorem dX6_explore_277 : decode cX6_explore 277 = .ok (.iaload, 1) := by decide +kernel
theorem dX6_explore_278 : decode cX6_explore 278 = .ok (.iconst (-1), 1) := by decide +kernel
theorem dX6_explore_279 : decode cX6_explore 279 = .ok (.if_icmp .eq 24, 3) := by decide +kernel
theorem dX6_explore_282 : decode cX6_explore 282 = .ok (.aload_n 0, 1) := by decide +kernel
theorem dX6_explore_283 : decode cX6_explore 283 = .ok (.getfield 48, 3) := by decide +kernel
theorem dX6_explore_286 : decode cX6_explore 286 = .ok (.aload_n 0, 1) := by decide +kernel
theorem dX6_explore_287 : decode cX6_explore 287 = .ok (.getfield 51, 3) := by decide +kernel
theorem dX6_explore_290 : decode cX6_explore 290 = .ok (.iconst 5, 1) := by decide +kernel
theorem dX6_explore_291 : decode cX6_explore 291 = .ok (.iload_n 3, 1) := by decide +kernel
theorem dX6_explore_292 : decode cX6_explore 292 = .ok (.imul, 1) := by decide +kernel
theorem dX6_explore_293 : decode cX6_explore 293 = .ok (.iconst 3, 1) := by decide +kernel
theorem dX6_explore_294 : decode cX6_explore 294 = .ok (.iadd, 1) := by decide +kernel
theorem dX6_explore_295 : decode cX6_explore 295 = .ok (.iaload, 1) := by decide +kernel
theorem dX6_explore_296 : decode cX6_explore 296 = .ok (.aaload, 1) := by decide +kernel
theorem dX6_explore_297 : decode cX6_explore 297 = .ok (.iload_n 2, 1) := by decide +kernel
theorem dX6_explore_298 : decode cX6_explore 298 = .ok (.iload 4, 2) := by decide +kernel
theorem dX6_explore_300 : decode cX6_explore 300 = .ok (.invokestatic 162, 3) := by decide +kernel
theorem dX6_explore_303 : decode cX6_explore 303 = .ok (.iinc 3 1, 3) := by decide +kernel
theorem dX6_explore_306 : decode cX6_explore 306 = .ok (.goto (-143), 3) := by decide +kernel
theorem dX6_explore_309 : decode cX6_explore 309 = .ok (.iinc 2 1, 3) := by decide +kernel
theorem dX6_explore_312 : decode cX6_explore 312 = .ok (.goto (-192), 3) := by decide +kernel
theorem dX6_explore_315 : decode cX6_explore 315 = .ok (.aload_n 0, 1) := by decide +kernel
theorem dX6_explore_316 : decode cX6_explore 316 = .ok (.getfield 82, 3) := by decide +kernel
theorem dX6_explore_319 : decode cX6_explore 319 = .ok (.ireturn, 1) := by decide +kernel
theorem dX6_stateTold_0 : decode cX6_stateTold 0 = .ok (.iload_n 2, 1) := by decide +kernel
theorem dX6_stateTold_1 : decode cX6_stateTold 1 = .ok (.iconst 5, 1) := by decide +kernel
theorem dX6_stateTold_2 : decode cX6_stateTold 2 = .ok (.if_icmp .ge 14, 3) := by decide +kernel
theorem dX6_stateTold_5 : decode cX6_stateTold 5 = .ok (.aload_n 0, 1) := by decide +kernel
theorem dX6_stateTold_6 : decode cX6_stateTold 6 = .ok (.getfield 28, 3) := by decide +kernel
theorem dX6_stateTold_9 : decode cX6_stateTold 9 = .ok (.iload_n 1, 1) := by decide +kernel
theorem dX6_stateTold_10 : decode cX6_stateTold 10 = .ok (.iaload, 1) := by decide +kernel
theorem dX6_stateTold_11 : decode cX6_stateTold 11 = .ok (.iload_n 2, 1) := by decide +kernel
theorem dX6_stateTold_12 : decode cX6_stateTold 12 = .ok (.invokestatic 129, 3) := by decide +kernel
theorem dX6_stateTold_15 : decode cX6_stateTold 15 = .ok (.ireturn, 1) := by decide +kernel
theorem dX6_stateTold_16 : decode cX6_stateTold 16 = .ok (.iload_n 2, 1) := by decide +kernel
theorem dX6_stateTold_17 : decode cX6_stateTold 17 = .ok (.bipush 9, 2) := by decide +kernel
theorem dX6_stateTold_19 : decode cX6_stateTold 19 = .ok (.if_icmp .ge 16, 3) := by decide +kernel
theorem dX6_stateTold_22 : decode cX6_stateTold 22 = .ok (.aload_n 0, 1) := by decide +kernel
theorem dX6_stateTold_23 : decode cX6_stateTold 23 = .ok (.getfield 28, 3) := by decide +kernel
theorem dX6_stateTold_26 : decode cX6_stateTold 26 = .ok (.iload_n 1, 1) := by decide +kernel
theorem dX6_stateTold_27 : decode cX6_stateTold 27 = .ok (.iaload, 1) := by decide +kernel
theorem dX6_stateTold_28 : decode cX6_stateTold 28 = .ok (.iload_n 2, 1) := by decide +kernel
theorem dX6_stateTold_29 : decode cX6_stateTold 29 = .ok (.iconst 5, 1) := by decide +kernel
theorem dX6_stateTold_30 : decode cX6_stateTold 30 = .ok (.isub, 1) := by decide +kernel
theorem dX6_stateTold_31 : decode cX6_stateTold 31 = .ok (.invokestatic 119, 3) := by decide +kernel
theorem dX6_stateTold_34 : decode cX6_stateTold 34 = .ok (.ireturn, 1) := by decide +kernel
theorem dX6_stateTold_35 : decode cX6_stateTold 35 = .ok (.iload_n 2, 1) := by decide +kernel
theorem dX6_stateTold_36 : decode cX6_stateTold 36 = .ok (.bipush 9, 2) := by decide +kernel
theorem dX6_stateTold_38 : decode cX6_stateTold 38 = .ok (.if_icmp .ne 12, 3) := by decide +kernel
theorem dX6_stateTold_41 : decode cX6_stateTold 41 = .ok (.aload_n 0, 1) := by decide +kernel
theorem dX6_stateTold_42 : decode cX6_stateTold 42 = .ok (.getfield 43, 3) := by decide +kernel
theorem dX6_stateTold_45 : decode cX6_stateTold 45 = .ok (.iload_n 1, 1) := by decide +kernel
theorem dX6_stateTold_46 : decode cX6_stateTold 46 = .ok (.iaload, 1) := by decide +kernel
theorem dX6_stateTold_47 : decode cX6_stateTold 47 = .ok (.goto 9, 3) := by decide +kernel
theorem dX6_stateTold_50 : decode cX6_stateTold 50 = .ok (.aload_n 0, 1) := by decide +kernel
theorem dX6_stateTold_51 : decode cX6_stateTold 51 = .ok (.getfield 40, 3) := by decide +kernel
theorem dX6_stateTold_54 : decode cX6_stateTold 54 = .ok (.iload_n 1, 1) := by decide +kernel
theorem dX6_stateTold_55 : decode cX6_stateTold 55 = .ok (.iaload, 1) := by decide +kernel
theorem dX6_stateTold_56 : decode cX6_stateTold 56 = .ok (.ireturn, 1) := by decide +kernel
theorem dX6_state_0 : decode cX6_state 0 = .ok (.aload_n 0, 1) := by decide +kernel
theorem dX6_state_1 : decode cX6_state 1 = .ok (.iconst 0, 1) := by decide +kernel
theorem dX6_state_2 : decode cX6_state 2 = .ok (.putfield 65, 3) := by decide +kernel
theorem dX6_state_5 : decode cX6_state 5 = .ok (.aload_n 0, 1) := by decide +kernel
theorem dX6_state_6 : decode cX6_state 6 = .ok (.iload_n 1, 1) := by decide +kernel
theorem dX6_state_7 : decode cX6_state 7 = .ok (.invokevirtual 165, 3) := by decide +kernel
theorem dX6_state_10 : decode cX6_state 10 = .ok (.ifCond .eq 47, 3) := by decide +kernel
theorem dX6_state_13 : decode cX6_state 13 = .ok (.iload_n 2, 1) := by decide +kernel
theorem dX6_state_14 : decode cX6_state 14 = .ok (.iconst 0, 1) := by decide +kernel
theorem dX6_state_15 : decode cX6_state 15 = .ok (.bipush 10, 2) := by decide +kernel
theorem dX6_state_17 : decode cX6_state 17 = .ok (.invokestatic 72, 3) := by decide +kernel
theorem dX6_state_20 : decode cX6_state 20 = .ok (.ifCond .eq 37, 3) := by decide +kernel
theorem dX6_state_23 : decode cX6_state 23 = .ok (.iload_n 2, 1) := by decide +kernel
theorem dX6_state_24 : decode cX6_state 24 = .ok (.iconst 5, 1) := by decide +kernel
theorem dX6_state_25 : decode cX6_state 25 = .ok (.if_icmp .ge 11, 3) := by decide +kernel
theorem dX6_state_28 : decode cX6_state 28 = .ok (.aload_n 0, 1) := by decide +kernel
theorem dX6_state_29 : decode cX6_state 29 = .ok (.iload_n 2, 1) := by decide +kernel
theorem dX6_state_30 : decode cX6_state 30 = .ok (.invokevirtual 95, 3) := by decide +kernel
theorem dX6_state_33 : decode cX6_state 33 = .ok (.ifCond .eq 24, 3) := by decide +kernel
theorem dX6_state_36 : decode cX6_state 36 = .ok (.iload_n 2, 1) := by decide +kernel
theorem dX6_state_37 : decode cX6_state 37 = .ok (.iconst 4, 1) := by decide +kernel
theorem dX6_state_38 : decode cX6_state 38 = .ok (.if_icmp .le 25, 3) := by decide +kernel
theorem dX6_state_41 : decode cX6_state 41 = .ok (.iload_n 2, 1) := by decide +kernel
theorem dX6_state_42 : decode cX6_state 42 = .ok (.bipush 9, 2) := by decide +kernel
theorem dX6_state_44 : decode cX6_state 44 = .ok (.if_icmp .ge 19, 3) := by decide +kernel
theorem dX6_state_47 : decode cX6_state 47 = .ok (.aload_n 0, 1) := by decide +kernel
theorem dX6_state_48 : decode cX6_state 48 = .ok (.iload_n 2, 1) := by decide +kernel
theorem dX6_state_49 : decode cX6_state 49 = .ok (.iconst 5, 1) := by decide +kernel
theorem dX6_state_50 : decode cX6_state 50 = .ok (.isub, 1) := by decide +kernel
theorem dX6_state_51 : decode cX6_state 51 = .ok (.invokevirtual 105, 3) := by decide +kernel
theorem dX6_state_54 : decode cX6_state 54 = .ok (.ifCond .ne 9, 3) := by decide +kernel
theorem dX6_state_57 : decode cX6_state 57 = .ok (.aload_n 0, 1) := by decide +kernel
theorem dX6_state_58 : decode cX6_state 58 = .ok (.iconst 1, 1) := by decide +kernel
theorem dX6_state_59 : decode cX6_state 59 = .ok (.invokevirtual 88, 3) := by decide +kernel
theorem dX6_state_62 : decode cX6_state 62 = .ok (.ireturn, 1) := by decide +kernel
theorem dX6_state_63 : decode cX6_state 63 = .ok (.aload_n 0, 1) := by decide +kernel
theorem dX6_state_64 : decode cX6_state 64 = .ok (.iload_n 1, 1) := by decide +kernel
theorem dX6_state_65 : decode cX6_state 65 = .ok (.iload_n 2, 1) := by decide +kernel
theorem dX6_state_66 : decode cX6_state 66 = .ok (.invokevirtual 168, 3) := by decide +kernel
theorem dX6_state_69 : decode cX6_state 69 = .ok (.ireturn, 1) := by decide +kernel
theorem dX6_stepTold_0 : decode cX6_stepTold 0 = .ok (.iload_n 2, 1) := by decide +kernel
theorem dX6_stepTold_1 : decode cX6_stepTold 1 = .ok (.ifCond .ne 18, 3) := by decide +kernel
theorem dX6_stepTold_4 : decode cX6_stepTold 4 = .ok (.aload_n 0, 1) := by decide +kernel
theorem dX6_stepTold_5 : decode cX6_stepTold 5 = .ok (.aload_n 0, 1) := by decide +kernel
theorem dX6_stepTold_6 : decode cX6_stepTold 6 = .ok (.getfield 51, 3) := by decide +kernel
theorem dX6_stepTold_9 : decode cX6_stepTold 9 = .ok (.iconst 5, 1) := by decide +kernel
theorem dX6_stepTold_10 : decode cX6_stepTold 10 = .ok (.iload_n 1, 1) := by decide +kernel
theorem dX6_stepTold_11 : decode cX6_stepTold 11 = .ok (.imul, 1) := by decide +kernel
theorem dX6_stepTold_12 : decode cX6_stepTold 12 = .ok (.iaload, 1) := by decide +kernel
theorem dX6_stepTold_13 : decode cX6_stepTold 13 = .ok (.invokevirtual 159, 3) := by decide +kernel
theorem dX6_stepTold_16 : decode cX6_stepTold 16 = .ok (.goto 13, 3) := by decide +kernel
theorem dX6_stepTold_19 : decode cX6_stepTold 19 = .ok (.aload_n 0, 1) := by decide +kernel
theorem dX6_stepTold_20 : decode cX6_stepTold 20 = .ok (.getfield 51, 3) := by decide +kernel
theorem dX6_stepTold_23 : decode cX6_stepTold 23 = .ok (.iconst 5, 1) := by decide +kernel
theorem dX6_stepTold_24 : decode cX6_stepTold 24 = .ok (.iload_n 1, 1) := by decide +kernel
theorem dX6_stepTold_25 : decode cX6_stepTold 25 = .ok (.imul, 1) := by decide +kernel
theorem dX6_stepTold_26 : decode cX6_stepTold 26 = .ok (.iload_n 2, 1) := by decide +kernel
theorem dX6_stepTold_27 : decode cX6_stepTold 27 = .ok (.iadd, 1) := by decide +kernel
theorem dX6_stepTold_28 : decode cX6_stepTold 28 = .ok (.iaload, 1) := by decide +kernel
theorem dX6_stepTold_29 : decode cX6_stepTold 29 = .ok (.ireturn, 1) := by decide +kernel
theorem dX6_step_0 : decode cX6_step 0 = .ok (.aload_n 0, 1) := by decide +kernel
theorem dX6_step_1 : decode cX6_step 1 = .ok (.iconst 0, 1) := by decide +kernel
theorem dX6_step_2 : decode cX6_step 2 = .ok (.putfield 65, 3) := by decide +kernel
theorem dX6_step_5 : decode cX6_step 5 = .ok (.aload_n 0, 1) := by decide +kernel
theorem dX6_step_6 : decode cX6_step 6 = .ok (.iload_n 1, 1) := by decide +kernel
theorem dX6_step_7 : decode cX6_step 7 = .ok (.invokevirtual 165, 3) := by decide +kernel
theorem dX6_step_10 : decode cX6_step 10 = .ok (.ifCond .eq 28, 3) := by decide +kernel
theorem dX6_step_13 : decode cX6_step 13 = .ok (.iload_n 2, 1) := by decide +kernel
theorem dX6_step_14 : decode cX6_step 14 = .ok (.iconst 0, 1) := by decide +kernel
theorem dX6_step_15 : decode cX6_step 15 = .ok (.aload_n 0, 1) := by decide +kernel
theorem dX6_step_16 : decode cX6_step 16 = .ok (.getfield 43, 3) := by decide +kernel
theorem dX6_step_19 : decode cX6_step 19 = .ok (.iload_n 1, 1) := by decide +kernel
theorem dX6_step_20 : decode cX6_step 20 = .ok (.iaload, 1) := by decide +kernel
theorem dX6_step_21 : decode cX6_step 21 = .ok (.iconst 1, 1) := by decide +kernel
theorem dX6_step_22 : decode cX6_step 22 = .ok (.isub, 1) := by decide +kernel
theorem dX6_step_23 : decode cX6_step 23 = .ok (.invokestatic 72, 3) := by decide +kernel
theorem dX6_step_26 : decode cX6_step 26 = .ok (.ifCond .eq 12, 3) := by decide +kernel
theorem dX6_step_29 : decode cX6_step 29 = .ok (.iload_n 3, 1) := by decide +kernel
theorem dX6_step_30 : decode cX6_step 30 = .ok (.iconst 0, 1) := by decide +kernel
theorem dX6_step_31 : decode cX6_step 31 = .ok (.iconst 4, 1) := by decide +kernel
theorem dX6_step_32 : decode cX6_step 32 = .ok (.invokestatic 72, 3) := by decide +kernel
theorem dX6_step_35 : decode cX6_step 35 = .ok (.ifCond .ne 9, 3) := by decide +kernel
theorem dX6_step_38 : decode cX6_step 38 = .ok (.aload_n 0, 1) := by decide +kernel
theorem dX6_step_39 : decode cX6_step 39 = .ok (.iconst 1, 1) := by decide +kernel
theorem dX6_step_40 : decode cX6_step 40 = .ok (.invokevirtual 88, 3) := by decide +kernel
theorem dX6_step_43 : decode cX6_step 43 = .ok (.ireturn, 1) := by decide +kernel
theorem dX6_step_44 : decode cX6_step 44 = .ok (.aload_n 0, 1) := by decide +kernel
theorem dX6_step_45 : decode cX6_step 45 = .ok (.aload_n 0, 1) := by decide +kernel
theorem dX6_step_46 : decode cX6_step 46 = .ok (.getfield 28, 3) := by decide +kernel
theorem dX6_step_49 : decode cX6_step 49 = .ok (.iload_n 1, 1) := by decide +kernel
theorem dX6_step_50 : decode cX6_step 50 = .ok (.iaload, 1) := by decide +kernel
theorem dX6_step_51 : decode cX6_step 51 = .ok (.invokevirtual 155, 3) := by decide +kernel
theorem dX6_step_54 : decode cX6_step 54 = .ok (.aload_n 0, 1) := by decide +kernel
theorem dX6_step_55 : decode cX6_step 55 = .ok (.iload_n 2, 1) := by decide +kernel
theorem dX6_step_56 : decode cX6_step 56 = .ok (.iload_n 3, 1) := by decide +kernel
theorem dX6_step_57 : decode cX6_step 57 = .ok (.invokevirtual 171, 3) := by decide +kernel
theorem dX6_step_60 : decode cX6_step 60 = .ok (.ireturn, 1) := by decide +kernel
theorem dX6_addFact_0 : decode cX6_addFact 0 = .ok (.aload_n 0, 1) := by decide +kernel
theorem dX6_addFact_1 : decode cX6_addFact 1 = .ok (.iconst 0, 1) := by decide +kernel
theorem dX6_addFact_2 : decode cX6_addFact 2 = .ok (.putfield 65, 3) := by decide +kernel
theorem dX6_addFact_5 : decode cX6_addFact 5 = .ok (.iload_n 1, 1) := by decide +kernel
theorem dX6_addFact_6 : decode cX6_addFact 6 = .ok (.iconst 0, 1) := by decide +kernel
theorem dX6_addFact_7 : decode cX6_addFact 7 = .ok (.iconst 5, 1) := by decide +kernel
theorem dX6_addFact_8 : decode cX6_addFact 8 = .ok (.invokestatic 72, 3) := by decide +kernel
theorem dX6_addFact_11 : decode cX6_addFact 11 = .ok (.ifCond .eq 42, 3) := by decide +kernel
theorem dX6_addFact_14 : decode cX6_addFact 14 = .ok (.iload_n 1, 1) := by decide +kernel
theorem dX6_addFact_15 : decode cX6_addFact 15 = .ok (.ifCond .ne 14, 3) := by decide +kernel
theorem dX6_addFact_18 : decode cX6_addFact 18 = .ok (.aload_n 0, 1) := by decide +kernel
theorem dX6_addFact_19 : decode cX6_addFact 19 = .ok (.iload_n 2, 1) := by decide +kernel
theorem dX6_addFact_20 : decode cX6_addFact 20 = .ok (.invokevirtual 95, 3) := by decide +kernel
theorem dX6_addFact_23 : decode cX6_addFact 23 = .ok (.ifCond .eq 30, 3) := by decide +kernel
theorem dX6_addFact_26 : decode cX6_addFact 26 = .ok (.goto 33, 3) := by decide +kernel
theorem dX6_addFact_29 : decode cX6_addFact 29 = .ok (.iload_n 1, 1) := by decide +kernel
theorem dX6_addFact_30 : decode cX6_addFact 30 = .ok (.iconst 3, 1) := by decide +kernel
theorem dX6_addFact_31 : decode cX6_addFact 31 = .ok (.if_icmp .ge 14, 3) := by decide +kernel
theorem dX6_addFact_34 : decode cX6_addFact 34 = .ok (.aload_n 0, 1) := by decide +kernel
theorem dX6_addFact_35 : decode cX6_addFact 35 = .ok (.iload_n 2, 1) := by decide +kernel
theorem dX6_addFact_36 : decode cX6_addFact 36 = .ok (.invokevirtual 105, 3) := by decide +kernel
theorem dX6_addFact_39 : decode cX6_addFact 39 = .ok (.ifCond .eq 14, 3) := by decide +kernel
theorem dX6_addFact_42 : decode cX6_addFact 42 = .ok (.goto 17, 3) := by decide +kernel
theorem dX6_addFact_45 : decode cX6_addFact 45 = .ok (.aload_n 0, 1) := by decide +kernel
theorem dX6_addFact_46 : decode cX6_addFact 46 = .ok (.iload_n 2, 1) := by decide +kernel
theorem dX6_addFact_47 : decode cX6_addFact 47 = .ok (.invokevirtual 174, 3) := by decide +kernel
theorem dX6_addFact_50 : decode cX6_addFact 50 = .ok (.ifCond .ne 9, 3) := by decide +kernel
theorem dX6_addFact_53 : decode cX6_addFact 53 = .ok (.aload_n 0, 1) := by decide +kernel
theorem dX6_addFact_54 : decode cX6_addFact 54 = .ok (.iconst 1, 1) := by decide +kernel
theorem dX6_addFact_55 : decode cX6_addFact 55 = .ok (.invokevirtual 88, 3) := by decide +kernel
theorem dX6_addFact_58 : decode cX6_addFact 58 = .ok (.ireturn, 1) := by decide +kernel
theorem dX6_addFact_59 : decode cX6_addFact 59 = .ok (.iload_n 1, 1) := by decide +kernel
theorem dX6_addFact_60 : decode cX6_addFact 60 = .ok (.ifCond .ne 22, 3) := by decide +kernel
theorem dX6_addFact_63 : decode cX6_addFact 63 = .ok (.iload_n 3, 1) := by decide +kernel
theorem dX6_addFact_64 : decode cX6_addFact 64 = .ok (.iconst 0, 1) := by decide +kernel
theorem dX6_addFact_65 : decode cX6_addFact 65 = .ok (.aload_n 0, 1) := by decide +kernel
theorem dX6_addFact_66 : decode cX6_addFact 66 = .ok (.getfield 9, 3) := by decide +kernel
theorem dX6_addFact_69 : decode cX6_addFact 69 = .ok (.iload_n 2, 1) := by decide +kernel
theorem dX6_addFact_70 : decode cX6_addFact 70 = .ok (.iaload, 1) := by decide +kernel
theorem dX6_addFact_71 : decode cX6_addFact 71 = .ok (.iconst 1, 1) := by decide +kernel
theorem dX6_addFact_72 : decode cX6_addFact 72 = .ok (.isub, 1) := by decide +kernel
theorem dX6_addFact_73 : decode cX6_addFact 73 = .ok (.invokestatic 72, 3) := by decide +kernel
theorem dX6_addFact_76 : decode cX6_addFact 76 = .ok (.ifCond .eq 44, 3) := by decide +kernel
theorem dX6_addFact_79 : decode cX6_addFact 79 = .ok (.goto 47, 3) := by decide +kernel
theorem dX6_addFact_82 : decode cX6_addFact 82 = .ok (.iload_n 1, 1) := by decide +kernel
theorem dX6_addFact_83 : decode cX6_addFact 83 = .ok (.iconst 3, 1) := by decide +kernel
theorem dX6_addFact_84 : decode cX6_addFact 84 = .ok (.if_icmp .ge 16, 3) := by decide +kernel
theorem dX6_addFact_87 : decode cX6_addFact 87 = .ok (.iload_n 3, 1) := by decide +kernel
theorem dX6_addFact_88 : decode cX6_addFact 88 = .ok (.iconst 0, 1) := by decide +kernel
theorem dX6_addFact_89 : decode cX6_addFact 89 = .ok (.bipush 9, 2) := by decide +kernel
theorem dX6_addFact_91 : decode cX6_addFact 91 = .ok (.invokestatic 72, 3) := by decide +kernel
theorem dX6_addFact_94 : decode cX6_addFact 94 = .ok (.ifCond .eq 26, 3) := by decide +kernel
theorem dX6_addFact_97 : decode cX6_addFact 97 = .ok (.goto 29, 3) := by decide +kernel
theorem dX6_addFact_100 : decode cX6_addFact 100 = .ok (.iload_n 1, 1) := by decide +kernel
theorem dX6_addFact_101 : decode cX6_addFact 101 = .ok (.iconst 3, 1) := by decide +kernel
theorem dX6_addFact_102 : decode cX6_addFact 102 = .ok (.if_icmp .ne 10, 3) := by decide +kernel
theorem dX6_addFact_105 : decode cX6_addFact 105 = .ok (.iload_n 3, 1) := by decide +kernel
theorem dX6_addFact_106 : decode cX6_addFact 106 = .ok (.ifCond .ne 14, 3) := by decide +kernel
theorem dX6_addFact_109 : decode cX6_addFact 109 = .ok (.goto 17, 3) := by decide +kernel
theorem dX6_addFact_112 : decode cX6_addFact 112 = .ok (.aload_n 0, 1) := by decide +kernel
theorem dX6_addFact_113 : decode cX6_addFact 113 = .ok (.iload_n 3, 1) := by decide +kernel
theorem dX6_addFact_114 : decode cX6_addFact 114 = .ok (.invokevirtual 174, 3) := by decide +kernel
theorem dX6_addFact_117 : decode cX6_addFact 117 = .ok (.ifCond .ne 9, 3) := by decide +kernel
theorem dX6_addFact_120 : decode cX6_addFact 120 = .ok (.aload_n 0, 1) := by decide +kernel
theorem dX6_addFact_121 : decode cX6_addFact 121 = .ok (.iconst 1, 1) := by decide +kernel
theorem dX6_addFact_122 : decode cX6_addFact 122 = .ok (.invokevirtual 88, 3) := by decide +kernel
theorem dX6_addFact_125 : decode cX6_addFact 125 = .ok (.ireturn, 1) := by decide +kernel
theorem dX6_addFact_126 : decode cX6_addFact 126 = .ok (.aload_n 0, 1) := by decide +kernel
theorem dX6_addFact_127 : decode cX6_addFact 127 = .ok (.getfield 79, 3) := by decide +kernel
theorem dX6_addFact_130 : decode cX6_addFact 130 = .ok (.bipush 12, 2) := by decide +kernel
theorem dX6_addFact_132 : decode cX6_addFact 132 = .ok (.if_icmp .ne 9, 3) := by decide +kernel
theorem dX6_addFact_135 : decode cX6_addFact 135 = .ok (.aload_n 0, 1) := by decide +kernel
theorem dX6_addFact_136 : decode cX6_addFact 136 = .ok (.iconst 2, 1) := by decide +kernel
theorem dX6_addFact_137 : decode cX6_addFact 137 = .ok (.invokevirtual 88, 3) := by decide +kernel
theorem dX6_addFact_140 : decode cX6_addFact 140 = .ok (.ireturn, 1) := by decide +kernel
theorem dX6_addFact_141 : decode cX6_addFact 141 = .ok (.iconst 3, 1) := by decide +kernel
theorem dX6_addFact_142 : decode cX6_addFact 142 = .ok (.newarray .int, 2) := by decide +kernel
theorem dX6_addFact_144 : decode cX6_addFact 144 = .ok (.dup, 1) := by decide +kernel
theorem dX6_addFact_145 : decode cX6_addFact 145 = .ok (.iconst 0, 1) := by decide +kernel
theorem dX6_addFact_146 : decode cX6_addFact 146 = .ok (.iload_n 1, 1) := by decide +kernel
theorem dX6_addFact_147 : decode cX6_addFact 147 = .ok (.iastore, 1) := by decide +kernel
theorem dX6_addFact_148 : decode cX6_addFact 148 = .ok (.dup, 1) := by decide +kernel
theorem dX6_addFact_149 : decode cX6_addFact 149 = .ok (.iconst 1, 1) := by decide +kernel
theorem dX6_addFact_150 : decode cX6_addFact 150 = .ok (.iload_n 2, 1) := by decide +kernel
theorem dX6_addFact_151 : decode cX6_addFact 151 = .ok (.iastore, 1) := by decide +kernel
theorem dX6_addFact_152 : decode cX6_addFact 152 = .ok (.dup, 1) := by decide +kernel
theorem dX6_addFact_153 : decode cX6_addFact 153 = .ok (.iconst 2, 1) := by decide +kernel
theorem dX6_addFact_154 : decode cX6_addFact 154 = .ok (.iload_n 3, 1) := by decide +kernel
theorem dX6_addFact_155 : decode cX6_addFact 155 = .ok (.iastore, 1) := by decide +kernel
theorem dX6_addFact_156 : decode cX6_addFact 156 = .ok (.astore 4, 2) := by decide +kernel
theorem dX6_addFact_158 : decode cX6_addFact 158 = .ok (.aload 4, 2) := by decide +kernel
theorem dX6_addFact_160 : decode cX6_addFact 160 = .ok (.iconst 0, 1) := by decide +kernel
theorem dX6_addFact_161 : decode cX6_addFact 161 = .ok (.aload_n 0, 1) := by decide +kernel
theorem dX6_addFact_162 : decode cX6_addFact 162 = .ok (.getfield 25, 3) := by decide +kernel
theorem dX6_addFact_165 : decode cX6_addFact 165 = .ok (.iconst 3, 1) := by decide +kernel
theorem dX6_addFact_166 : decode cX6_addFact 166 = .ok (.aload_n 0, 1) := by decide +kernel
theorem dX6_addFact_167 : decode cX6_addFact 167 = .ok (.getfield 79, 3) := by decide +kernel
theorem dX6_addFact_170 : decode cX6_addFact 170 = .ok (.imul, 1) := by decide +kernel
theorem dX6_addFact_171 : decode cX6_addFact 171 = .ok (.iconst 3, 1) := by decide +kernel
theorem dX6_addFact_172 : decode cX6_addFact 172 = .ok (.invokestatic 99, 3) := by decide +kernel
theorem dX6_addFact_175 : decode cX6_addFact 175 = .ok (.aload_n 0, 1) := by decide +kernel
theorem dX6_addFact_176 : decode cX6_addFact 176 = .ok (.dup, 1) := by decide +kernel
theorem dX6_addFact_177 : decode cX6_addFact 177 = .ok (.getfield 79, 3) := by decide +kernel
theorem dX6_addFact_180 : decode cX6_addFact 180 = .ok (.iconst 1, 1) := by decide +kernel
theorem dX6_addFact_181 : decode cX6_addFact 181 = .ok (.iadd, 1) := by decide +kernel
theorem dX6_addFact_182 : decode cX6_addFact 182 = .ok (.putfield 79, 3) := by decide +kernel
theorem dX6_addFact_185 : decode cX6_addFact 185 = .ok (.aload_n 0, 1) := by decide +kernel
theorem dX6_addFact_186 : decode cX6_addFact 186 = .ok (.getfield 79, 3) := by decide +kernel
theorem dX6_addFact_189 : decode cX6_addFact 189 = .ok (.iconst 1, 1) := by decide +kernel
theorem dX6_addFact_190 : decode cX6_addFact 190 = .ok (.isub, 1) := by decide +kernel
theorem dX6_addFact_191 : decode cX6_addFact 191 = .ok (.ireturn, 1) := by decide +kernel
theorem dX6_isTrue_0 : decode cX6_isTrue 0 = .ok (.aload_n 0, 1) := by decide +kernel
theorem dX6_isTrue_1 : decode cX6_isTrue 1 = .ok (.getfield 25, 3) := by decide +kernel
theorem dX6_isTrue_4 : decode cX6_isTrue 4 = .ok (.iconst 3, 1) := by decide +kernel
theorem dX6_isTrue_5 : decode cX6_isTrue 5 = .ok (.iload_n 1, 1) := by decide +kernel
theorem dX6_isTrue_6 : decode cX6_isTrue 6 = .ok (.imul, 1) := by decide +kernel
theorem dX6_isTrue_7 : decode cX6_isTrue 7 = .ok (.iconst 1, 1) := by decide +kernel
theorem dX6_isTrue_8 : decode cX6_isTrue 8 = .ok (.iadd, 1) := by decide +kernel
theorem dX6_isTrue_9 : decode cX6_isTrue 9 = .ok (.iaload, 1) := by decide +kernel
theorem dX6_isTrue_10 : decode cX6_isTrue 10 = .ok (.istore_n 3, 1) := by decide +kernel
theorem dX6_isTrue_11 : decode cX6_isTrue 11 = .ok (.aload_n 0, 1) := by decide +kernel
theorem dX6_isTrue_12 : decode cX6_isTrue 12 = .ok (.getfield 25, 3) := by decide +kernel
theorem dX6_isTrue_15 : decode cX6_isTrue 15 = .ok (.iconst 3, 1) := by decide +kernel
theorem dX6_isTrue_16 : decode cX6_isTrue 16 = .ok (.iload_n 1, 1) := by decide +kernel
theorem dX6_isTrue_17 : decode cX6_isTrue 17 = .ok (.imul, 1) := by decide +kernel
theorem dX6_isTrue_18 : decode cX6_isTrue 18 = .ok (.iconst 2, 1) := by decide +kernel
theorem dX6_isTrue_19 : decode cX6_isTrue 19 = .ok (.iadd, 1) := by decide +kernel
theorem dX6_isTrue_20 : decode cX6_isTrue 20 = .ok (.iaload, 1) := by decide +kernel
theorem dX6_isTrue_21 : decode cX6_isTrue 21 = .ok (.istore 4, 2) := by decide +kernel
theorem dX6_isTrue_23 : decode cX6_isTrue 23 = .ok (.aload_n 0, 1) := by decide +kernel
theorem dX6_isTrue_24 : decode cX6_isTrue 24 = .ok (.getfield 25, 3) := by decide +kernel
theorem dX6_isTrue_27 : decode cX6_isTrue 27 = .ok (.iconst 3, 1) := by decide +kernel
theorem dX6_isTrue_28 : decode cX6_isTrue 28 = .ok (.iload_n 1, 1) := by decide +kernel
theorem dX6_isTrue_29 : decode cX6_isTrue 29 = .ok (.imul, 1) := by decide +kernel
theorem dX6_isTrue_30 : decode cX6_isTrue 30 = .ok (.iaload, 1) := by decide +kernel
theorem dX6_isTrue_31 : decode cX6_isTrue 31 = .ok (.tableswitch 136 0 4 #[33, 54, 75, 96, 111], 33) := by decide +kernel
theorem dX6_isTrue_64 : decode cX6_isTrue 64 = .ok (.aload_n 0, 1) := by decide +kernel
theorem dX6_isTrue_65 : decode cX6_isTrue 65 = .ok (.getfield 28, 3) := by decide +kernel
theorem dX6_isTrue_68 : decode cX6_isTrue 68 = .ok (.iload_n 2, 1) := by decide +kernel
theorem dX6_isTrue_69 : decode cX6_isTrue 69 = .ok (.iaload, 1) := by decide +kernel
theorem dX6_isTrue_70 : decode cX6_isTrue 70 = .ok (.iload_n 3, 1) := by decide +kernel
theorem dX6_isTrue_71 : decode cX6_isTrue 71 = .ok (.invokestatic 129, 3) := by decide +kernel
theorem dX6_isTrue_74 : decode cX6_isTrue 74 = .ok (.iload 4, 2) := by decide +kernel
theorem dX6_isTrue_76 : decode cX6_isTrue 76 = .ok (.if_icmp .ne 7, 3) := by decide +kernel
theorem dX6_isTrue_79 : decode cX6_isTrue 79 = .ok (.iconst 1, 1) := by decide +kernel
theorem dX6_isTrue_80 : decode cX6_isTrue 80 = .ok (.goto 4, 3) := by decide +kernel
theorem dX6_isTrue_83 : decode cX6_isTrue 83 = .ok (.iconst 0, 1) := by decide +kernel
theorem dX6_isTrue_84 : decode cX6_isTrue 84 = .ok (.ireturn, 1) := by decide +kernel
theorem dX6_isTrue_85 : decode cX6_isTrue 85 = .ok (.aload_n 0, 1) := by decide +kernel
theorem dX6_isTrue_86 : decode cX6_isTrue 86 = .ok (.getfield 28, 3) := by decide +kernel
theorem dX6_isTrue_89 : decode cX6_isTrue 89 = .ok (.iload_n 2, 1) := by decide +kernel
theorem dX6_isTrue_90 : decode cX6_isTrue 90 = .ok (.iaload, 1) := by decide +kernel
theorem dX6_isTrue_91 : decode cX6_isTrue 91 = .ok (.iload_n 3, 1) := by decide +kernel
theorem dX6_isTrue_92 : decode cX6_isTrue 92 = .ok (.invokestatic 119, 3) := by decide +kernel
theorem dX6_isTrue_95 : decode cX6_isTrue 95 = .ok (.iload 4, 2) := by decide +kernel
theorem dX6_isTrue_97 : decode cX6_isTrue 97 = .ok (.if_icmp .ne 7, 3) := by decide +kernel
theorem dX6_isTrue_100 : decode cX6_isTrue 100 = .ok (.iconst 1, 1) := by decide +kernel
theorem dX6_isTrue_101 : decode cX6_isTrue 101 = .ok (.goto 4, 3) := by decide +kernel
theorem dX6_isTrue_104 : decode cX6_isTrue 104 = .ok (.iconst 0, 1) := by decide +kernel
theorem dX6_isTrue_105 : decode cX6_isTrue 105 = .ok (.ireturn, 1) := by decide +kernel
theorem dX6_isTrue_106 : decode cX6_isTrue 106 = .ok (.aload_n 0, 1) := by decide +kernel
theorem dX6_isTrue_107 : decode cX6_isTrue 107 = .ok (.getfield 28, 3) := by decide +kernel
theorem dX6_isTrue_110 : decode cX6_isTrue 110 = .ok (.iload_n 2, 1) := by decide +kernel
theorem dX6_isTrue_111 : decode cX6_isTrue 111 = .ok (.iaload, 1) := by decide +kernel
theorem dX6_isTrue_112 : decode cX6_isTrue 112 = .ok (.iload_n 3, 1) := by decide +kernel
theorem dX6_isTrue_113 : decode cX6_isTrue 113 = .ok (.invokestatic 119, 3) := by decide +kernel
theorem dX6_isTrue_116 : decode cX6_isTrue 116 = .ok (.iload 4, 2) := by decide +kernel
theorem dX6_isTrue_118 : decode cX6_isTrue 118 = .ok (.if_icmp .gt 7, 3) := by decide +kernel
theorem dX6_isTrue_121 : decode cX6_isTrue 121 = .ok (.iconst 1, 1) := by decide +kernel
theorem dX6_isTrue_122 : decode cX6_isTrue 122 = .ok (.goto 4, 3) := by decide +kernel
theorem dX6_isTrue_125 : decode cX6_isTrue 125 = .ok (.iconst 0, 1) := by decide +kernel
theorem dX6_isTrue_126 : decode cX6_isTrue 126 = .ok (.ireturn, 1) := by decide +kernel
theorem dX6_isTrue_127 : decode cX6_isTrue 127 = .ok (.aload_n 0, 1) := by decide +kernel
theorem dX6_isTrue_128 : decode cX6_isTrue 128 = .ok (.iload_n 3, 1) := by decide +kernel
theorem dX6_isTrue_129 : decode cX6_isTrue 129 = .ok (.iload_n 2, 1) := by decide +kernel
theorem dX6_isTrue_130 : decode cX6_isTrue 130 = .ok (.invokevirtual 177, 3) := by decide +kernel
theorem dX6_isTrue_133 : decode cX6_isTrue 133 = .ok (.ifCond .ne 7, 3) := by decide +kernel
theorem dX6_isTrue_136 : decode cX6_isTrue 136 = .ok (.iconst 1, 1) := by decide +kernel
theorem dX6_isTrue_137 : decode cX6_isTrue 137 = .ok (.goto 4, 3) := by decide +kernel
theorem dX6_isTrue_140 : decode cX6_isTrue 140 = .ok (.iconst 0, 1) := by decide +kernel
theorem dX6_isTrue_141 : decode cX6_isTrue 141 = .ok (.ireturn, 1) := by decide +kernel
theorem dX6_isTrue_142 : decode cX6_isTrue 142 = .ok (.aload_n 0, 1) := by decide +kernel
theorem dX6_isTrue_143 : decode cX6_isTrue 143 = .ok (.iload_n 3, 1) := by decide +kernel
theorem dX6_isTrue_144 : decode cX6_isTrue 144 = .ok (.iload_n 2, 1) := by decide +kernel
theorem dX6_isTrue_145 : decode cX6_isTrue 145 = .ok (.invokevirtual 177, 3) := by decide +kernel
theorem dX6_isTrue_148 : decode cX6_isTrue 148 = .ok (.ifCond .eq 17, 3) := by decide +kernel
theorem dX6_isTrue_151 : decode cX6_isTrue 151 = .ok (.aload_n 0, 1) := by decide +kernel
theorem dX6_isTrue_152 : decode cX6_isTrue 152 = .ok (.iload 4, 2) := by decide +kernel
theorem dX6_isTrue_154 : decode cX6_isTrue 154 = .ok (.iload_n 2, 1) := by decide +kernel
theorem dX6_isTrue_155 : decode cX6_isTrue 155 = .ok (.invokevirtual 177, 3) := by decide +kernel
theorem dX6_isTrue_158 : decode cX6_isTrue 158 = .ok (.ifCond .eq 7, 3) := by decide +kernel
theorem dX6_isTrue_161 : decode cX6_isTrue 161 = .ok (.iconst 1, 1) := by decide +kernel
theorem dX6_isTrue_162 : decode cX6_isTrue 162 = .ok (.goto 4, 3) := by decide +kernel
theorem dX6_isTrue_165 : decode cX6_isTrue 165 = .ok (.iconst 0, 1) := by decide +kernel
theorem dX6_isTrue_166 : decode cX6_isTrue 166 = .ok (.ireturn, 1) := by decide +kernel
theorem dX6_isTrue_167 : decode cX6_isTrue 167 = .ok (.aload_n 0, 1) := by decide +kernel
theorem dX6_isTrue_168 : decode cX6_isTrue 168 = .ok (.iload_n 3, 1) := by decide +kernel
theorem dX6_isTrue_169 : decode cX6_isTrue 169 = .ok (.iload_n 2, 1) := by decide +kernel
theorem dX6_isTrue_170 : decode cX6_isTrue 170 = .ok (.invokevirtual 177, 3) := by decide +kernel
theorem dX6_isTrue_173 : decode cX6_isTrue 173 = .ok (.ifCond .ne 13, 3) := by decide +kernel
theorem dX6_isTrue_176 : decode cX6_isTrue 176 = .ok (.aload_n 0, 1) := by decide +kernel
theorem dX6_isTrue_177 : decode cX6_isTrue 177 = .ok (.iload 4, 2) := by decide +kernel
theorem dX6_isTrue_179 : decode cX6_isTrue 179 = .ok (.iload_n 2, 1) := by decide +kernel
theorem dX6_isTrue_180 : decode cX6_isTrue 180 = .ok (.invokevirtual 177, 3) := by decide +kernel
theorem dX6_isTrue_183 : decode cX6_isTrue 183 = .ok (.ifCond .eq 7, 3) := by decide +kernel
theorem dX6_isTrue_186 : decode cX6_isTrue 186 = .ok (.iconst 1, 1) := by decide +kernel
theorem dX6_isTrue_187 : decode cX6_isTrue 187 = .ok (.goto 4, 3) := by decide +kernel
theorem dX6_isTrue_190 : decode cX6_isTrue 190 = .ok (.iconst 0, 1) := by decide +kernel
theorem dX6_isTrue_191 : decode cX6_isTrue 191 = .ok (.ireturn, 1) := by decide +kernel
theorem dX6_holds_0 : decode cX6_holds 0 = .ok (.aload_n 0, 1) := by decide +kernel
theorem dX6_holds_1 : decode cX6_holds 1 = .ok (.aload_n 0, 1) := by decide +kernel
theorem dX6_holds_2 : decode cX6_holds 2 = .ok (.iload_n 1, 1) := by decide +kernel
theorem dX6_holds_3 : decode cX6_holds 3 = .ok (.invokevirtual 174, 3) := by decide +kernel
theorem dX6_holds_6 : decode cX6_holds 6 = .ok (.ifCond .eq 15, 3) := by decide +kernel
theorem dX6_holds_9 : decode cX6_holds 9 = .ok (.aload_n 0, 1) := by decide +kernel
theorem dX6_holds_10 : decode cX6_holds 10 = .ok (.iload_n 2, 1) := by decide +kernel
theorem dX6_holds_11 : decode cX6_holds 11 = .ok (.invokevirtual 165, 3) := by decide +kernel
theorem dX6_holds_14 : decode cX6_holds 14 = .ok (.ifCond .eq 7, 3) := by decide +kernel
theorem dX6_holds_17 : decode cX6_holds 17 = .ok (.iconst 0, 1) := by decide +kernel
theorem dX6_holds_18 : decode cX6_holds 18 = .ok (.goto 4, 3) := by decide +kernel
theorem dX6_holds_21 : decode cX6_holds 21 = .ok (.iconst 1, 1) := by decide +kernel
theorem dX6_holds_22 : decode cX6_holds 22 = .ok (.putfield 65, 3) := by decide +kernel
theorem dX6_holds_25 : decode cX6_holds 25 = .ok (.aload_n 0, 1) := by decide +kernel
theorem dX6_holds_26 : decode cX6_holds 26 = .ok (.getfield 65, 3) := by decide +kernel
theorem dX6_holds_29 : decode cX6_holds 29 = .ok (.ifCond .ne 16, 3) := by decide +kernel
theorem dX6_holds_32 : decode cX6_holds 32 = .ok (.aload_n 0, 1) := by decide +kernel
theorem dX6_holds_33 : decode cX6_holds 33 = .ok (.iload_n 1, 1) := by decide +kernel
theorem dX6_holds_34 : decode cX6_holds 34 = .ok (.iload_n 2, 1) := by decide +kernel
theorem dX6_holds_35 : decode cX6_holds 35 = .ok (.invokevirtual 177, 3) := by decide +kernel
theorem dX6_holds_38 : decode cX6_holds 38 = .ok (.ifCond .eq 7, 3) := by decide +kernel
theorem dX6_holds_41 : decode cX6_holds 41 = .ok (.iconst 1, 1) := by decide +kernel
theorem dX6_holds_42 : decode cX6_holds 42 = .ok (.goto 4, 3) := by decide +kernel
theorem dX6_holds_45 : decode cX6_holds 45 = .ok (.iconst 0, 1) := by decide +kernel
theorem dX6_holds_46 : decode cX6_holds 46 = .ok (.ireturn, 1) := by decide +kernel
theorem dX6_statesOf_0 : decode cX6_statesOf 0 = .ok (.iconst 0, 1) := by decide +kernel
theorem dX6_statesOf_1 : decode cX6_statesOf 1 = .ok (.istore_n 2, 1) := by decide +kernel
theorem dX6_statesOf_2 : decode cX6_statesOf 2 = .ok (.iconst 0, 1) := by decide +kernel
theorem dX6_statesOf_3 : decode cX6_statesOf 3 = .ok (.istore_n 3, 1) := by decide +kernel
theorem dX6_statesOf_4 : decode cX6_statesOf 4 = .ok (.iload_n 3, 1) := by decide +kernel
theorem dX6_statesOf_5 : decode cX6_statesOf 5 = .ok (.aload_n 0, 1) := by decide +kernel
theorem dX6_statesOf_6 : decode cX6_statesOf 6 = .ok (.getfield 82, 3) := by decide +kernel
theorem dX6_statesOf_9 : decode cX6_statesOf 9 = .ok (.if_icmp .ge 26, 3) := by decide +kernel
theorem dX6_statesOf_12 : decode cX6_statesOf 12 = .ok (.iload_n 2, 1) := by decide +kernel
theorem dX6_statesOf_13 : decode cX6_statesOf 13 = .ok (.aload_n 0, 1) := by decide +kernel
theorem dX6_statesOf_14 : decode cX6_statesOf 14 = .ok (.iload_n 1, 1) := by decide +kernel
theorem dX6_statesOf_15 : decode cX6_statesOf 15 = .ok (.iload_n 3, 1) := by decide +kernel
theorem dX6_statesOf_16 : decode cX6_statesOf 16 = .ok (.invokevirtual 177, 3) := by decide +kernel
theorem dX6_statesOf_19 : decode cX6_statesOf 19 = .ok (.ifCond .eq 7, 3) := by decide +kernel
theorem dX6_statesOf_22 : decode cX6_statesOf 22 = .ok (.iconst 1, 1) := by decide +kernel
theorem dX6_statesOf_23 : decode cX6_statesOf 23 = .ok (.goto 4, 3) := by decide +kernel
theorem dX6_statesOf_26 : decode cX6_statesOf 26 = .ok (.iconst 0, 1) := by decide +kernel
theorem dX6_statesOf_27 : decode cX6_statesOf 27 = .ok (.iadd, 1) := by decide +kernel
theorem dX6_statesOf_28 : decode cX6_statesOf 28 = .ok (.istore_n 2, 1) := by decide +kernel
theorem dX6_statesOf_29 : decode cX6_statesOf 29 = .ok (.iinc 3 1, 3) := by decide +kernel
theorem dX6_statesOf_32 : decode cX6_statesOf 32 = .ok (.goto (-28), 3) := by decide +kernel
theorem dX6_statesOf_35 : decode cX6_statesOf 35 = .ok (.iload_n 2, 1) := by decide +kernel
theorem dX6_statesOf_36 : decode cX6_statesOf 36 = .ok (.ireturn, 1) := by decide +kernel
theorem dX6_where_0 : decode cX6_where 0 = .ok (.aload_n 0, 1) := by decide +kernel
theorem dX6_where_1 : decode cX6_where 1 = .ok (.aload_n 0, 1) := by decide +kernel
theorem dX6_where_2 : decode cX6_where 2 = .ok (.iload_n 1, 1) := by decide +kernel
theorem dX6_where_3 : decode cX6_where 3 = .ok (.invokevirtual 174, 3) := by decide +kernel
theorem dX6_where_6 : decode cX6_where 6 = .ok (.ifCond .ne 7, 3) := by decide +kernel
theorem dX6_where_9 : decode cX6_where 9 = .ok (.iconst 1, 1) := by decide +kernel
theorem dX6_where_10 : decode cX6_where 10 = .ok (.goto 15, 3) := by decide +kernel
theorem dX6_where_13 : decode cX6_where 13 = .ok (.aload_n 0, 1) := by decide +kernel
theorem dX6_where_14 : decode cX6_where 14 = .ok (.getfield 82, 3) := by decide +kernel
theorem dX6_where_17 : decode cX6_where 17 = .ok (.ifCond .ne 7, 3) := by decide +kernel
theorem dX6_where_20 : decode cX6_where 20 = .ok (.iconst 2, 1) := by decide +kernel
theorem dX6_where_21 : decode cX6_where 21 = .ok (.goto 4, 3) := by decide +kernel
theorem dX6_where_24 : decode cX6_where 24 = .ok (.iconst 0, 1) := by decide +kernel
theorem dX6_where_25 : decode cX6_where 25 = .ok (.putfield 65, 3) := by decide +kernel
theorem dX6_where_28 : decode cX6_where 28 = .ok (.aload_n 0, 1) := by decide +kernel
theorem dX6_where_29 : decode cX6_where 29 = .ok (.getfield 65, 3) := by decide +kernel
theorem dX6_where_32 : decode cX6_where 32 = .ok (.ifCond .eq 5, 3) := by decide +kernel
theorem dX6_where_35 : decode cX6_where 35 = .ok (.iconst 0, 1) := by decide +kernel
theorem dX6_where_36 : decode cX6_where 36 = .ok (.ireturn, 1) := by decide +kernel
theorem dX6_where_37 : decode cX6_where 37 = .ok (.iload_n 2, 1) := by decide +kernel
theorem dX6_where_38 : decode cX6_where 38 = .ok (.ifCond .ne 9, 3) := by decide +kernel
theorem dX6_where_41 : decode cX6_where 41 = .ok (.aload_n 0, 1) := by decide +kernel
theorem dX6_where_42 : decode cX6_where 42 = .ok (.iload_n 1, 1) := by decide +kernel
theorem dX6_where_43 : decode cX6_where 43 = .ok (.invokevirtual 181, 3) := by decide +kernel
theorem dX6_where_46 : decode cX6_where 46 = .ok (.ireturn, 1) := by decide +kernel
theorem dX6_where_47 : decode cX6_where 47 = .ok (.iconst 0, 1) := by decide +kernel
theorem dX6_where_48 : decode cX6_where 48 = .ok (.istore_n 3, 1) := by decide +kernel
theorem dX6_where_49 : decode cX6_where 49 = .ok (.iload_n 3, 1) := by decide +kernel
theorem dX6_where_50 : decode cX6_where 50 = .ok (.aload_n 0, 1) := by decide +kernel
theorem dX6_where_51 : decode cX6_where 51 = .ok (.getfield 82, 3) := by decide +kernel
theorem dX6_where_54 : decode cX6_where 54 = .ok (.if_icmp .ge 18, 3) := by decide +kernel
theorem dX6_where_57 : decode cX6_where 57 = .ok (.aload_n 0, 1) := by decide +kernel
theorem dX6_where_58 : decode cX6_where 58 = .ok (.iload_n 1, 1) := by decide +kernel
theorem dX6_where_59 : decode cX6_where 59 = .ok (.iload_n 3, 1) := by decide +kernel
theorem dX6_where_60 : decode cX6_where 60 = .ok (.invokevirtual 177, 3) := by decide +kernel
theorem dX6_where_63 : decode cX6_where 63 = .ok (.ifCond .ne 9, 3) := by decide +kernel
theorem dX6_where_66 : decode cX6_where 66 = .ok (.iinc 3 1, 3) := by decide +kernel
theorem dX6_where_69 : decode cX6_where 69 = .ok (.goto (-20), 3) := by decide +kernel
theorem dX6_where_72 : decode cX6_where 72 = .ok (.iload_n 3, 1) := by decide +kernel
theorem dX6_where_73 : decode cX6_where 73 = .ok (.aload_n 0, 1) := by decide +kernel
theorem dX6_where_74 : decode cX6_where 74 = .ok (.getfield 82, 3) := by decide +kernel
theorem dX6_where_77 : decode cX6_where 77 = .ok (.if_icmp .ne 7, 3) := by decide +kernel
theorem dX6_where_80 : decode cX6_where 80 = .ok (.iconst (-1), 1) := by decide +kernel
theorem dX6_where_81 : decode cX6_where 81 = .ok (.goto 4, 3) := by decide +kernel
theorem dX6_where_84 : decode cX6_where 84 = .ok (.iload_n 3, 1) := by decide +kernel
theorem dX6_where_85 : decode cX6_where 85 = .ok (.ireturn, 1) := by decide +kernel
theorem dX6_stuck_0 : decode cX6_stuck 0 = .ok (.aload_n 0, 1) := by decide +kernel
theorem dX6_stuck_1 : decode cX6_stuck 1 = .ok (.iconst 0, 1) := by decide +kernel
theorem dX6_stuck_2 : decode cX6_stuck 2 = .ok (.putfield 65, 3) := by decide +kernel
theorem dX6_stuck_5 : decode cX6_stuck 5 = .ok (.aload_n 0, 1) := by decide +kernel
theorem dX6_stuck_6 : decode cX6_stuck 6 = .ok (.getfield 82, 3) := by decide +kernel
theorem dX6_stuck_9 : decode cX6_stuck 9 = .ok (.ifCond .ne 9, 3) := by decide +kernel
theorem dX6_stuck_12 : decode cX6_stuck 12 = .ok (.aload_n 0, 1) := by decide +kernel
theorem dX6_stuck_13 : decode cX6_stuck 13 = .ok (.iconst 1, 1) := by decide +kernel
theorem dX6_stuck_14 : decode cX6_stuck 14 = .ok (.invokevirtual 88, 3) := by decide +kernel
theorem dX6_stuck_17 : decode cX6_stuck 17 = .ok (.ireturn, 1) := by decide +kernel
theorem dX6_stuck_18 : decode cX6_stuck 18 = .ok (.iconst 0, 1) := by decide +kernel
theorem dX6_stuck_19 : decode cX6_stuck 19 = .ok (.istore_n 1, 1) := by decide +kernel
theorem dX6_stuck_20 : decode cX6_stuck 20 = .ok (.iload_n 1, 1) := by decide +kernel
theorem dX6_stuck_21 : decode cX6_stuck 21 = .ok (.aload_n 0, 1) := by decide +kernel
theorem dX6_stuck_22 : decode cX6_stuck 22 = .ok (.getfield 82, 3) := by decide +kernel
theorem dX6_stuck_25 : decode cX6_stuck 25 = .ok (.if_icmp .ge 18, 3) := by decide +kernel
theorem dX6_stuck_28 : decode cX6_stuck 28 = .ok (.aload_n 0, 1) := by decide +kernel
theorem dX6_stuck_29 : decode cX6_stuck 29 = .ok (.getfield 43, 3) := by decide +kernel
theorem dX6_stuck_32 : decode cX6_stuck 32 = .ok (.iload_n 1, 1) := by decide +kernel
theorem dX6_stuck_33 : decode cX6_stuck 33 = .ok (.iaload, 1) := by decide +kernel
theorem dX6_stuck_34 : decode cX6_stuck 34 = .ok (.ifCond .le 9, 3) := by decide +kernel
theorem dX6_stuck_37 : decode cX6_stuck 37 = .ok (.iinc 1 1, 3) := by decide +kernel
theorem dX6_stuck_40 : decode cX6_stuck 40 = .ok (.goto (-20), 3) := by decide +kernel
theorem dX6_stuck_43 : decode cX6_stuck 43 = .ok (.iload_n 1, 1) := by decide +kernel
theorem dX6_stuck_44 : decode cX6_stuck 44 = .ok (.aload_n 0, 1) := by decide +kernel
theorem dX6_stuck_45 : decode cX6_stuck 45 = .ok (.getfield 82, 3) := by decide +kernel
theorem dX6_stuck_48 : decode cX6_stuck 48 = .ok (.if_icmp .ne 7, 3) := by decide +kernel
theorem dX6_stuck_51 : decode cX6_stuck 51 = .ok (.iconst (-1), 1) := by decide +kernel
theorem dX6_stuck_52 : decode cX6_stuck 52 = .ok (.goto 4, 3) := by decide +kernel
theorem dX6_stuck_55 : decode cX6_stuck 55 = .ok (.iload_n 1, 1) := by decide +kernel
theorem dX6_stuck_56 : decode cX6_stuck 56 = .ok (.ireturn, 1) := by decide +kernel
theorem dX6_findReach_0 : decode cX6_findReach 0 = .ok (.iconst 0, 1) := by decide +kernel
theorem dX6_findReach_1 : decode cX6_findReach 1 = .ok (.istore_n 2, 1) := by decide +kernel
theorem dX6_findReach_2 : decode cX6_findReach 2 = .ok (.iload_n 2, 1) := by decide +kernel
theorem dX6_findReach_3 : decode cX6_findReach 3 = .ok (.aload_n 0, 1) := by decide +kernel
theorem dX6_findReach_4 : decode cX6_findReach 4 = .ok (.getfield 82, 3) := by decide +kernel
theorem dX6_findReach_7 : decode cX6_findReach 7 = .ok (.if_icmp .ge 29, 3) := by decide +kernel
theorem dX6_findReach_10 : decode cX6_findReach 10 = .ok (.aload_n 0, 1) := by decide +kernel
theorem dX6_findReach_11 : decode cX6_findReach 11 = .ok (.getfield 61, 3) := by decide +kernel
theorem dX6_findReach_14 : decode cX6_findReach 14 = .ok (.iload_n 2, 1) := by decide +kernel
theorem dX6_findReach_15 : decode cX6_findReach 15 = .ok (.aload_n 0, 1) := by decide +kernel
theorem dX6_findReach_16 : decode cX6_findReach 16 = .ok (.iload_n 1, 1) := by decide +kernel
theorem dX6_findReach_17 : decode cX6_findReach 17 = .ok (.iload_n 2, 1) := by decide +kernel
theorem dX6_findReach_18 : decode cX6_findReach 18 = .ok (.invokevirtual 177, 3) := by decide +kernel
theorem dX6_findReach_21 : decode cX6_findReach 21 = .ok (.ifCond .ne 7, 3) := by decide +kernel
theorem dX6_findReach_24 : decode cX6_findReach 24 = .ok (.iconst 1, 1) := by decide +kernel
theorem dX6_findReach_25 : decode cX6_findReach 25 = .ok (.goto 4, 3) := by decide +kernel
theorem dX6_findReach_28 : decode cX6_findReach 28 = .ok (.iconst 0, 1) := by decide +kernel
theorem dX6_findReach_29 : decode cX6_findReach 29 = .ok (.bastore, 1) := by decide +kernel
theorem dX6_findReach_30 : decode cX6_findReach 30 = .ok (.iinc 2 1, 3) := by decide +kernel
theorem dX6_findReach_33 : decode cX6_findReach 33 = .ok (.goto (-31), 3) := by decide +kernel
theorem dX6_findReach_36 : decode cX6_findReach 36 = .ok (.iconst 0, 1) := by decide +kernel
theorem dX6_findReach_37 : decode cX6_findReach 37 = .ok (.istore_n 2, 1) := by decide +kernel
theorem dX6_findReach_38 : decode cX6_findReach 38 = .ok (.iload_n 2, 1) := by decide +kernel
theorem dX6_findReach_39 : decode cX6_findReach 39 = .ok (.sipush 2800, 3) := by decide +kernel
theorem dX6_findReach_42 : decode cX6_findReach 42 = .ok (.if_icmp .ge 16, 3) := by decide +kernel
theorem dX6_findReach_45 : decode cX6_findReach 45 = .ok (.aload_n 0, 1) := by decide +kernel
theorem dX6_findReach_46 : decode cX6_findReach 46 = .ok (.getfield 54, 3) := by decide +kernel
theorem dX6_findReach_49 : decode cX6_findReach 49 = .ok (.iload_n 2, 1) := by decide +kernel
theorem dX6_findReach_50 : decode cX6_findReach 50 = .ok (.lconst 0, 1) := by decide +kernel
theorem dX6_findReach_51 : decode cX6_findReach 51 = .ok (.lastore, 1) := by decide +kernel
theorem dX6_findReach_52 : decode cX6_findReach 52 = .ok (.iinc 2 1, 3) := by decide +kernel
theorem dX6_findReach_55 : decode cX6_findReach 55 = .ok (.goto (-17), 3) := by decide +kernel
theorem dX6_findReach_58 : decode cX6_findReach 58 = .ok (.iconst 0, 1) := by decide +kernel
theorem dX6_findReach_59 : decode cX6_findReach 59 = .ok (.istore_n 2, 1) := by decide +kernel
theorem dX6_findReach_60 : decode cX6_findReach 60 = .ok (.iload_n 2, 1) := by decide +kernel
theorem dX6_findReach_61 : decode cX6_findReach 61 = .ok (.aload_n 0, 1) := by decide +kernel
theorem dX6_findReach_62 : decode cX6_findReach 62 = .ok (.getfield 69, 3) := by decide +kernel
theorem dX6_findReach_65 : decode cX6_findReach 65 = .ok (.if_icmp .ge 87, 3) := by decide +kernel
theorem dX6_findReach_68 : decode cX6_findReach 68 = .ok (.iconst 0, 1) := by decide +kernel
theorem dX6_findReach_69 : decode cX6_findReach 69 = .ok (.istore_n 3, 1) := by decide +kernel
theorem dX6_findReach_70 : decode cX6_findReach 70 = .ok (.iload_n 3, 1) := by decide +kernel
theorem dX6_findReach_71 : decode cX6_findReach 71 = .ok (.aload_n 0, 1) := by decide +kernel
theorem dX6_findReach_72 : decode cX6_findReach 72 = .ok (.getfield 82, 3) := by decide +kernel
theorem dX6_findReach_75 : decode cX6_findReach 75 = .ok (.if_icmp .ge 71, 3) := by decide +kernel
theorem dX6_findReach_78 : decode cX6_findReach 78 = .ok (.iconst 0, 1) := by decide +kernel
theorem dX6_findReach_79 : decode cX6_findReach 79 = .ok (.istore 4, 2) := by decide +kernel
theorem dX6_findReach_81 : decode cX6_findReach 81 = .ok (.iload 4, 2) := by decide +kernel
theorem dX6_findReach_83 : decode cX6_findReach 83 = .ok (.aload_n 0, 1) := by decide +kernel
theorem dX6_findReach_84 : decode cX6_findReach 84 = .ok (.getfield 82, 3) := by decide +kernel
theorem dX6_findReach_87 : decode cX6_findReach 87 = .ok (.if_icmp .ge 53, 3) := by decide +kernel
theorem dX6_findReach_90 : decode cX6_findReach 90 = .ok (.aload_n 0, 1) := by decide +kernel
theorem dX6_findReach_91 : decode cX6_findReach 91 = .ok (.getfield 61, 3) := by decide +kernel
theorem dX6_findReach_94 : decode cX6_findReach 94 = .ok (.iload_n 3, 1) := by decide +kernel
theorem dX6_findReach_95 : decode cX6_findReach 95 = .ok (.baload, 1) := by decide +kernel
theorem dX6_findReach_96 : decode cX6_findReach 96 = .ok (.ifCond .eq 38, 3) := by decide +kernel
theorem dX6_findReach_99 : decode cX6_findReach 99 = .ok (.aload_n 0, 1) := by decide +kernel
theorem dX6_findReach_100 : decode cX6_findReach 100 = .ok (.getfield 61, 3) := by decide +kernel
theorem dX6_findReach_103 : decode cX6_findReach 103 = .ok (.iload 4, 2) := by decide +kernel
theorem dX6_findReach_105 : decode cX6_findReach 105 = .ok (.baload, 1) := by decide +kernel
theorem dX6_findReach_106 : decode cX6_findReach 106 = .ok (.ifCond .eq 28, 3) := by decide +kernel
theorem dX6_findReach_109 : decode cX6_findReach 109 = .ok (.aload_n 0, 1) := by decide +kernel
theorem dX6_findReach_110 : decode cX6_findReach 110 = .ok (.getfield 48, 3) := by decide +kernel
theorem dX6_findReach_113 : decode cX6_findReach 113 = .ok (.iload_n 2, 1) := by decide +kernel
theorem dX6_findReach_114 : decode cX6_findReach 114 = .ok (.aaload, 1) := by decide +kernel
theorem dX6_findReach_115 : decode cX6_findReach 115 = .ok (.iload_n 3, 1) := by decide +kernel
theorem dX6_findReach_116 : decode cX6_findReach 116 = .ok (.iload 4, 2) := by decide +kernel
theorem dX6_findReach_118 : decode cX6_findReach 118 = .ok (.invokestatic 184, 3) := by decide +kernel
theorem dX6_findReach_121 : decode cX6_findReach 121 = .ok (.ifCond .eq 13, 3) := by decide +kernel
theorem dX6_findReach_124 : decode cX6_findReach 124 = .ok (.aload_n 0, 1) := by decide +kernel
theorem dX6_findReach_125 : decode cX6_findReach 125 = .ok (.getfield 54, 3) := by decide +kernel
theorem dX6_findReach_128 : decode cX6_findReach 128 = .ok (.iload_n 3, 1) := by decide +kernel
theorem dX6_findReach_129 : decode cX6_findReach 129 = .ok (.iload 4, 2) := by decide +kernel
theorem dX6_findReach_131 : decode cX6_findReach 131 = .ok (.invokestatic 162, 3) := by decide +kernel
theorem dX6_findReach_134 : decode cX6_findReach 134 = .ok (.iinc 4 1, 3) := by decide +kernel
theorem dX6_findReach_137 : decode cX6_findReach 137 = .ok (.goto (-56), 3) := by decide +kernel
theorem dX6_findReach_140 : decode cX6_findReach 140 = .ok (.iinc 3 1, 3) := by decide +kernel
theorem dX6_findReach_143 : decode cX6_findReach 143 = .ok (.goto (-73), 3) := by decide +kernel
theorem dX6_findReach_146 : decode cX6_findReach 146 = .ok (.iinc 2 1, 3) := by decide +kernel
theorem dX6_findReach_149 : decode cX6_findReach 149 = .ok (.goto (-89), 3) := by decide +kernel
theorem dX6_findReach_152 : decode cX6_findReach 152 = .ok (.iconst 0, 1) := by decide +kernel
theorem dX6_findReach_153 : decode cX6_findReach 153 = .ok (.istore_n 2, 1) := by decide +kernel
theorem dX6_findReach_154 : decode cX6_findReach 154 = .ok (.iload_n 2, 1) := by decide +kernel
theorem dX6_findReach_155 : decode cX6_findReach 155 = .ok (.aload_n 0, 1) := by decide +kernel
theorem dX6_findReach_156 : decode cX6_findReach 156 = .ok (.getfield 82, 3) := by decide +kernel
theorem dX6_findReach_159 : decode cX6_findReach 159 = .ok (.if_icmp .ge 83, 3) := by decide +kernel
theorem dX6_findReach_162 : decode cX6_findReach 162 = .ok (.iconst 0, 1) := by decide +kernel
theorem dX6_findReach_163 : decode cX6_findReach 163 = .ok (.istore_n 3, 1) := by decide +kernel
theorem dX6_findReach_164 : decode cX6_findReach 164 = .ok (.iload_n 3, 1) := by decide +kernel
theorem dX6_findReach_165 : decode cX6_findReach 165 = .ok (.aload_n 0, 1) := by decide +kernel
theorem dX6_findReach_166 : decode cX6_findReach 166 = .ok (.getfield 82, 3) := by decide +kernel
theorem dX6_findReach_169 : decode cX6_findReach 169 = .ok (.if_icmp .ge 67, 3) := by decide +kernel
theorem dX6_findReach_172 : decode cX6_findReach 172 = .ok (.aload_n 0, 1) := by decide +kernel
theorem dX6_findReach_173 : decode cX6_findReach 173 = .ok (.getfield 54, 3) := by decide +kernel
theorem dX6_findReach_176 : decode cX6_findReach 176 = .ok (.iload_n 3, 1) := by decide +kernel
theorem dX6_findReach_177 : decode cX6_findReach 177 = .ok (.iload_n 2, 1) := by decide +kernel
theorem dX6_findReach_178 : decode cX6_findReach 178 = .ok (.invokestatic 184, 3) := by decide +kernel
theorem dX6_findReach_181 : decode cX6_findReach 181 = .ok (.ifCond .ne 6, 3) := by decide +kernel
theorem dX6_findReach_184 : decode cX6_findReach 184 = .ok (.goto 46, 3) := by decide +kernel
theorem dX6_findReach_187 : decode cX6_findReach 187 = .ok (.iconst 0, 1) := by decide +kernel
theorem dX6_findReach_188 : decode cX6_findReach 188 = .ok (.istore 4, 2) := by decide +kernel
theorem dX6_findReach_190 : decode cX6_findReach 190 = .ok (.iload 4, 2) := by decide +kernel
theorem dX6_findReach_192 : decode cX6_findReach 192 = .ok (.bipush 7, 2) := by decide +kernel
theorem dX6_findReach_194 : decode cX6_findReach 194 = .ok (.if_icmp .ge 36, 3) := by decide +kernel
theorem dX6_findReach_197 : decode cX6_findReach 197 = .ok (.aload_n 0, 1) := by decide +kernel
theorem dX6_findReach_198 : decode cX6_findReach 198 = .ok (.getfield 54, 3) := by decide +kernel
theorem dX6_findReach_201 : decode cX6_findReach 201 = .ok (.bipush 7, 2) := by decide +kernel
theorem dX6_findReach_203 : decode cX6_findReach 203 = .ok (.iload_n 3, 1) := by decide +kernel
theorem dX6_findReach_204 : decode cX6_findReach 204 = .ok (.imul, 1) := by decide +kernel
theorem dX6_findReach_205 : decode cX6_findReach 205 = .ok (.iload 4, 2) := by decide +kernel
theorem dX6_findReach_207 : decode cX6_findReach 207 = .ok (.iadd, 1) := by decide +kernel
theorem dX6_findReach_208 : decode cX6_findReach 208 = .ok (.dup2, 1) := by decide +kernel
theorem dX6_findReach_209 : decode cX6_findReach 209 = .ok (.laload, 1) := by decide +kernel
theorem dX6_findReach_210 : decode cX6_findReach 210 = .ok (.aload_n 0, 1) := by decide +kernel
theorem dX6_findReach_211 : decode cX6_findReach 211 = .ok (.getfield 54, 3) := by decide +kernel
theorem dX6_findReach_214 : decode cX6_findReach 214 = .ok (.bipush 7, 2) := by decide +kernel
theorem dX6_findReach_216 : decode cX6_findReach 216 = .ok (.iload_n 2, 1) := by decide +kernel
theorem dX6_findReach_217 : decode cX6_findReach 217 = .ok (.imul, 1) := by decide +kernel
theorem dX6_findReach_218 : decode cX6_findReach 218 = .ok (.iload 4, 2) := by decide +kernel
theorem dX6_findReach_220 : decode cX6_findReach 220 = .ok (.iadd, 1) := by decide +kernel
theorem dX6_findReach_221 : decode cX6_findReach 221 = .ok (.laload, 1) := by decide +kernel
theorem dX6_findReach_222 : decode cX6_findReach 222 = .ok (.lor, 1) := by decide +kernel
theorem dX6_findReach_223 : decode cX6_findReach 223 = .ok (.lastore, 1) := by decide +kernel
theorem dX6_findReach_224 : decode cX6_findReach 224 = .ok (.iinc 4 1, 3) := by decide +kernel
theorem dX6_findReach_227 : decode cX6_findReach 227 = .ok (.goto (-37), 3) := by decide +kernel
theorem dX6_findReach_230 : decode cX6_findReach 230 = .ok (.iinc 3 1, 3) := by decide +kernel
theorem dX6_findReach_233 : decode cX6_findReach 233 = .ok (.goto (-69), 3) := by decide +kernel
theorem dX6_findReach_236 : decode cX6_findReach 236 = .ok (.iinc 2 1, 3) := by decide +kernel
theorem dX6_findReach_239 : decode cX6_findReach 239 = .ok (.goto (-85), 3) := by decide +kernel
theorem dX6_findReach_242 : decode cX6_findReach 242 = .ok (.return_, 1) := by decide +kernel
theorem dX6_isTogether_0 : decode cX6_isTogether 0 = .ok (.aload_n 0, 1) := by decide +kernel
theorem dX6_isTogether_1 : decode cX6_isTogether 1 = .ok (.getfield 54, 3) := by decide +kernel
theorem dX6_isTogether_4 : decode cX6_isTogether 4 = .ok (.iload_n 1, 1) := by decide +kernel
theorem dX6_isTogether_5 : decode cX6_isTogether 5 = .ok (.iload_n 2, 1) := by decide +kernel
theorem dX6_isTogether_6 : decode cX6_isTogether 6 = .ok (.invokestatic 184, 3) := by decide +kernel
theorem dX6_isTogether_9 : decode cX6_isTogether 9 = .ok (.ifCond .eq 19, 3) := by decide +kernel
theorem dX6_isTogether_12 : decode cX6_isTogether 12 = .ok (.aload_n 0, 1) := by decide +kernel
theorem dX6_isTogether_13 : decode cX6_isTogether 13 = .ok (.getfield 54, 3) := by decide +kernel
theorem dX6_isTogether_16 : decode cX6_isTogether 16 = .ok (.iload_n 2, 1) := by decide +kernel
theorem dX6_isTogether_17 : decode cX6_isTogether 17 = .ok (.iload_n 1, 1) := by decide +kernel
theorem dX6_isTogether_18 : decode cX6_isTogether 18 = .ok (.invokestatic 184, 3) := by decide +kernel
theorem dX6_isTogether_21 : decode cX6_isTogether 21 = .ok (.ifCond .eq 7, 3) := by decide +kernel
theorem dX6_isTogether_24 : decode cX6_isTogether 24 = .ok (.iconst 1, 1) := by decide +kernel
theorem dX6_isTogether_25 : decode cX6_isTogether 25 = .ok (.goto 4, 3) := by decide +kernel
theorem dX6_isTogether_28 : decode cX6_isTogether 28 = .ok (.iconst 0, 1) := by decide +kernel
theorem dX6_isTogether_29 : decode cX6_isTogether 29 = .ok (.ireturn, 1) := by decide +kernel
theorem dX6_isFairTo_0 : decode cX6_isFairTo 0 = .ok (.iconst 0, 1) := by decide +kernel
theorem dX6_isFairTo_1 : decode cX6_isFairTo 1 = .ok (.istore_n 3, 1) := by decide +kernel
theorem dX6_isFairTo_2 : decode cX6_isFairTo 2 = .ok (.iload_n 3, 1) := by decide +kernel
theorem dX6_isFairTo_3 : decode cX6_isFairTo 3 = .ok (.aload_n 0, 1) := by decide +kernel
theorem dX6_isFairTo_4 : decode cX6_isFairTo 4 = .ok (.getfield 82, 3) := by decide +kernel
theorem dX6_isFairTo_7 : decode cX6_isFairTo 7 = .ok (.if_icmp .ge 123, 3) := by decide +kernel
theorem dX6_isFairTo_10 : decode cX6_isFairTo 10 = .ok (.aload_n 0, 1) := by decide +kernel
theorem dX6_isFairTo_11 : decode cX6_isFairTo 11 = .ok (.iload_n 2, 1) := by decide +kernel
theorem dX6_isFairTo_12 : decode cX6_isFairTo 12 = .ok (.iload_n 3, 1) := by decide +kernel
theorem dX6_isFairTo_13 : decode cX6_isFairTo 13 = .ok (.invokevirtual 188, 3) := by decide +kernel
theorem dX6_isFairTo_16 : decode cX6_isFairTo 16 = .ok (.ifCond .ne 6, 3) := by decide +kernel
theorem dX6_isFairTo_19 : decode cX6_isFairTo 19 = .ok (.goto 105, 3) := by decide +kernel
theorem dX6_isFairTo_22 : decode cX6_isFairTo 22 = .ok (.iconst 0, 1) := by decide +kernel
theorem dX6_isFairTo_23 : decode cX6_isFairTo 23 = .ok (.istore 4, 2) := by decide +kernel
theorem dX6_isFairTo_25 : decode cX6_isFairTo 25 = .ok (.iconst 0, 1) := by decide +kernel
theorem dX6_isFairTo_26 : decode cX6_isFairTo 26 = .ok (.istore 5, 2) := by decide +kernel
theorem dX6_isFairTo_28 : decode cX6_isFairTo 28 = .ok (.iload 5, 2) := by decide +kernel
theorem dX6_isFairTo_30 : decode cX6_isFairTo 30 = .ok (.bipush 7, 2) := by decide +kernel
theorem dX6_isFairTo_32 : decode cX6_isFairTo 32 = .ok (.if_icmp .ge 40, 3) := by decide +kernel
theorem dX6_isFairTo_35 : decode cX6_isFairTo 35 = .ok (.iload 4, 2) := by decide +kernel
theorem dX6_isFairTo_37 : decode cX6_isFairTo 37 = .ok (.ifCond .ne 22, 3) := by decide +kernel
theorem dX6_isFairTo_40 : decode cX6_isFairTo 40 = .ok (.aload_n 0, 1) := by decide +kernel
theorem dX6_isFairTo_41 : decode cX6_isFairTo 41 = .ok (.getfield 48, 3) := by decide +kernel
theorem dX6_isFairTo_44 : decode cX6_isFairTo 44 = .ok (.iload_n 1, 1) := by decide +kernel
theorem dX6_isFairTo_45 : decode cX6_isFairTo 45 = .ok (.aaload, 1) := by decide +kernel
theorem dX6_isFairTo_46 : decode cX6_isFairTo 46 = .ok (.bipush 7, 2) := by decide +kernel
theorem dX6_isFairTo_48 : decode cX6_isFairTo 48 = .ok (.iload_n 3, 1) := by decide +kernel
theorem dX6_isFairTo_49 : decode cX6_isFairTo 49 = .ok (.imul, 1) := by decide +kernel
theorem dX6_isFairTo_50 : decode cX6_isFairTo 50 = .ok (.iload 5, 2) := by decide +kernel
theorem dX6_isFairTo_52 : decode cX6_isFairTo 52 = .ok (.iadd, 1) := by decide +kernel
theorem dX6_isFairTo_53 : decode cX6_isFairTo 53 = .ok (.laload, 1) := by decide +kernel
theorem dX6_isFairTo_54 : decode cX6_isFairTo 54 = .ok (.lconst 0, 1) := by decide +kernel
theorem dX6_isFairTo_55 : decode cX6_isFairTo 55 = .ok (.lcmp, 1) := by decide +kernel
theorem dX6_isFairTo_56 : decode cX6_isFairTo 56 = .ok (.ifCond .eq 7, 3) := by decide +kernel
theorem dX6_isFairTo_59 : decode cX6_isFairTo 59 = .ok (.iconst 1, 1) := by decide +kernel
theorem dX6_isFairTo_60 : decode cX6_isFairTo 60 = .ok (.goto 4, 3) := by decide +kernel
theorem dX6_isFairTo_63 : decode cX6_isFairTo 63 = .ok (.iconst 0, 1) := by decide +kernel
theorem dX6_isFairTo_64 : decode cX6_isFairTo 64 = .ok (.istore 4, 2) := by decide +kernel
theorem dX6_isFairTo_66 : decode cX6_isFairTo 66 = .ok (.iinc 5 1, 3) := by decide +kernel
theorem dX6_isFairTo_69 : decode cX6_isFairTo 69 = .ok (.goto (-41), 3) := by decide +kernel
theorem dX6_isFairTo_72 : decode cX6_isFairTo 72 = .ok (.iload 4, 2) := by decide +kernel
theorem dX6_isFairTo_74 : decode cX6_isFairTo 74 = .ok (.ifCond .ne 5, 3) := by decide +kernel
theorem dX6_isFairTo_77 : decode cX6_isFairTo 77 = .ok (.iconst 1, 1) := by decide +kernel
theorem dX6_isFairTo_78 : decode cX6_isFairTo 78 = .ok (.ireturn, 1) := by decide +kernel
theorem dX6_isFairTo_79 : decode cX6_isFairTo 79 = .ok (.iconst 0, 1) := by decide +kernel
theorem dX6_isFairTo_80 : decode cX6_isFairTo 80 = .ok (.istore 5, 2) := by decide +kernel
theorem dX6_isFairTo_82 : decode cX6_isFairTo 82 = .ok (.iload 5, 2) := by decide +kernel
theorem dX6_isFairTo_84 : decode cX6_isFairTo 84 = .ok (.aload_n 0, 1) := by decide +kernel
theorem dX6_isFairTo_85 : decode cX6_isFairTo 85 = .ok (.getfield 82, 3) := by decide +kernel
theorem dX6_isFairTo_88 : decode cX6_isFairTo 88 = .ok (.if_icmp .ge 36, 3) := by decide +kernel
theorem dX6_isFairTo_91 : decode cX6_isFairTo 91 = .ok (.aload_n 0, 1) := by decide +kernel
theorem dX6_isFairTo_92 : decode cX6_isFairTo 92 = .ok (.getfield 48, 3) := by decide +kernel
theorem dX6_isFairTo_95 : decode cX6_isFairTo 95 = .ok (.iload_n 1, 1) := by decide +kernel
theorem dX6_isFairTo_96 : decode cX6_isFairTo 96 = .ok (.aaload, 1) := by decide +kernel
theorem dX6_isFairTo_97 : decode cX6_isFairTo 97 = .ok (.iload_n 3, 1) := by decide +kernel
theorem dX6_isFairTo_98 : decode cX6_isFairTo 98 = .ok (.iload 5, 2) := by decide +kernel
theorem dX6_isFairTo_100 : decode cX6_isFairTo 100 = .ok (.invokestatic 184, 3) := by decide +kernel
theorem dX6_isFairTo_103 : decode cX6_isFairTo 103 = .ok (.ifCond .eq 15, 3) := by decide +kernel
theorem dX6_isFairTo_106 : decode cX6_isFairTo 106 = .ok (.aload_n 0, 1) := by decide +kernel
theorem dX6_isFairTo_107 : decode cX6_isFairTo 107 = .ok (.iload_n 2, 1) := by decide +kernel
theorem dX6_isFairTo_108 : decode cX6_isFairTo 108 = .ok (.iload 5, 2) := by decide +kernel
theorem dX6_isFairTo_110 : decode cX6_isFairTo 110 = .ok (.invokevirtual 188, 3) := by decide +kernel
theorem dX6_isFairTo_113 : decode cX6_isFairTo 113 = .ok (.ifCond .eq 5, 3) := by decide +kernel
theorem dX6_isFairTo_116 : decode cX6_isFairTo 116 = .ok (.iconst 1, 1) := by decide +kernel
theorem dX6_isFairTo_117 : decode cX6_isFairTo 117 = .ok (.ireturn, 1) := by decide +kernel
theorem dX6_isFairTo_118 : decode cX6_isFairTo 118 = .ok (.iinc 5 1, 3) := by decide +kernel
theorem dX6_isFairTo_121 : decode cX6_isFairTo 121 = .ok (.goto (-39), 3) := by decide +kernel
theorem dX6_isFairTo_124 : decode cX6_isFairTo 124 = .ok (.iinc 3 1, 3) := by decide +kernel
theorem dX6_isFairTo_127 : decode cX6_isFairTo 127 = .ok (.goto (-125), 3) := by decide +kernel
theorem dX6_isFairTo_130 : decode cX6_isFairTo 130 = .ok (.iconst 0, 1) := by decide +kernel
theorem dX6_isFairTo_131 : decode cX6_isFairTo 131 = .ok (.ireturn, 1) := by decide +kernel
theorem dX6_isTrap_0 : decode cX6_isTrap 0 = .ok (.aload_n 0, 1) := by decide +kernel
theorem dX6_isTrap_1 : decode cX6_isTrap 1 = .ok (.getfield 61, 3) := by decide +kernel
theorem dX6_isTrap_4 : decode cX6_isTrap 4 = .ok (.iload_n 1, 1) := by decide +kernel
theorem dX6_isTrap_5 : decode cX6_isTrap 5 = .ok (.baload, 1) := by decide +kernel
theorem dX6_isTrap_6 : decode cX6_isTrap 6 = .ok (.ifCond .ne 5, 3) := by decide +kernel
theorem dX6_isTrap_9 : decode cX6_isTrap 9 = .ok (.iconst 0, 1) := by decide +kernel
theorem dX6_isTrap_10 : decode cX6_isTrap 10 = .ok (.ireturn, 1) := by decide +kernel
theorem dX6_isTrap_11 : decode cX6_isTrap 11 = .ok (.aload_n 0, 1) := by decide +kernel
theorem dX6_isTrap_12 : decode cX6_isTrap 12 = .ok (.getfield 43, 3) := by decide +kernel
theorem dX6_isTrap_15 : decode cX6_isTrap 15 = .ok (.iload_n 1, 1) := by decide +kernel
theorem dX6_isTrap_16 : decode cX6_isTrap 16 = .ok (.iaload, 1) := by decide +kernel
theorem dX6_isTrap_17 : decode cX6_isTrap 17 = .ok (.ifCond .ne 5, 3) := by decide +kernel
theorem dX6_isTrap_20 : decode cX6_isTrap 20 = .ok (.iconst 1, 1) := by decide +kernel
theorem dX6_isTrap_21 : decode cX6_isTrap 21 = .ok (.ireturn, 1) := by decide +kernel
theorem dX6_isTrap_22 : decode cX6_isTrap 22 = .ok (.aload_n 0, 1) := by decide +kernel
theorem dX6_isTrap_23 : decode cX6_isTrap 23 = .ok (.getfield 54, 3) := by decide +kernel
theorem dX6_isTrap_26 : decode cX6_isTrap 26 = .ok (.iload_n 1, 1) := by decide +kernel
theorem dX6_isTrap_27 : decode cX6_isTrap 27 = .ok (.iload_n 1, 1) := by decide +kernel
theorem dX6_isTrap_28 : decode cX6_isTrap 28 = .ok (.invokestatic 184, 3) := by decide +kernel
theorem dX6_isTrap_31 : decode cX6_isTrap 31 = .ok (.ifCond .ne 5, 3) := by decide +kernel
theorem dX6_isTrap_34 : decode cX6_isTrap 34 = .ok (.iconst 0, 1) := by decide +kernel
theorem dX6_isTrap_35 : decode cX6_isTrap 35 = .ok (.ireturn, 1) := by decide +kernel
theorem dX6_isTrap_36 : decode cX6_isTrap 36 = .ok (.iconst 0, 1) := by decide +kernel
theorem dX6_isTrap_37 : decode cX6_isTrap 37 = .ok (.istore_n 2, 1) := by decide +kernel
theorem dX6_isTrap_38 : decode cX6_isTrap 38 = .ok (.iload_n 2, 1) := by decide +kernel
theorem dX6_isTrap_39 : decode cX6_isTrap 39 = .ok (.aload_n 0, 1) := by decide +kernel
theorem dX6_isTrap_40 : decode cX6_isTrap 40 = .ok (.getfield 69, 3) := by decide +kernel
theorem dX6_isTrap_43 : decode cX6_isTrap 43 = .ok (.if_icmp .ge 20, 3) := by decide +kernel
theorem dX6_isTrap_46 : decode cX6_isTrap 46 = .ok (.aload_n 0, 1) := by decide +kernel
theorem dX6_isTrap_47 : decode cX6_isTrap 47 = .ok (.iload_n 2, 1) := by decide +kernel
theorem dX6_isTrap_48 : decode cX6_isTrap 48 = .ok (.iload_n 1, 1) := by decide +kernel
theorem dX6_isTrap_49 : decode cX6_isTrap 49 = .ok (.invokevirtual 191, 3) := by decide +kernel
theorem dX6_isTrap_52 : decode cX6_isTrap 52 = .ok (.ifCond .ne 5, 3) := by decide +kernel
theorem dX6_isTrap_55 : decode cX6_isTrap 55 = .ok (.iconst 0, 1) := by decide +kernel
theorem dX6_isTrap_56 : decode cX6_isTrap 56 = .ok (.ireturn, 1) := by decide +kernel
theorem dX6_isTrap_57 : decode cX6_isTrap 57 = .ok (.iinc 2 1, 3) := by decide +kernel
theorem dX6_isTrap_60 : decode cX6_isTrap 60 = .ok (.goto (-22), 3) := by decide +kernel
theorem dX6_isTrap_63 : decode cX6_isTrap 63 = .ok (.iconst 1, 1) := by decide +kernel
theorem dX6_isTrap_64 : decode cX6_isTrap 64 = .ok (.ireturn, 1) := by decide +kernel
theorem dX6_findTraps_0 : decode cX6_findTraps 0 = .ok (.aload_n 0, 1) := by decide +kernel
theorem dX6_findTraps_1 : decode cX6_findTraps 1 = .ok (.iload_n 1, 1) := by decide +kernel
theorem dX6_findTraps_2 : decode cX6_findTraps 2 = .ok (.invokevirtual 194, 3) := by decide +kernel
theorem dX6_findTraps_5 : decode cX6_findTraps 5 = .ok (.iconst 0, 1) := by decide +kernel
theorem dX6_findTraps_6 : decode cX6_findTraps 6 = .ok (.istore_n 2, 1) := by decide +kernel
theorem dX6_findTraps_7 : decode cX6_findTraps 7 = .ok (.iconst 0, 1) := by decide +kernel
theorem dX6_findTraps_8 : decode cX6_findTraps 8 = .ok (.istore_n 3, 1) := by decide +kernel
theorem dX6_findTraps_9 : decode cX6_findTraps 9 = .ok (.iload_n 3, 1) := by decide +kernel
theorem dX6_findTraps_10 : decode cX6_findTraps 10 = .ok (.bipush 7, 2) := by decide +kernel
theorem dX6_findTraps_12 : decode cX6_findTraps 12 = .ok (.if_icmp .ge 16, 3) := by decide +kernel
theorem dX6_findTraps_15 : decode cX6_findTraps 15 = .ok (.aload_n 0, 1) := by decide +kernel
theorem dX6_findTraps_16 : decode cX6_findTraps 16 = .ok (.getfield 58, 3) := by decide +kernel
theorem dX6_findTraps_19 : decode cX6_findTraps 19 = .ok (.iload_n 3, 1) := by decide +kernel
theorem dX6_findTraps_20 : decode cX6_findTraps 20 = .ok (.lconst 0, 1) := by decide +kernel
theorem dX6_findTraps_21 : decode cX6_findTraps 21 = .ok (.lastore, 1) := by decide +kernel
theorem dX6_findTraps_22 : decode cX6_findTraps 22 = .ok (.iinc 3 1, 3) := by decide +kernel
theorem dX6_findTraps_25 : decode cX6_findTraps 25 = .ok (.goto (-16), 3) := by decide +kernel
theorem dX6_findTraps_28 : decode cX6_findTraps 28 = .ok (.iconst 0, 1) := by decide +kernel
theorem dX6_findTraps_29 : decode cX6_findTraps 29 = .ok (.istore_n 3, 1) := by decide +kernel
theorem dX6_findTraps_30 : decode cX6_findTraps 30 = .ok (.iload_n 3, 1) := by decide +kernel
theorem dX6_findTraps_31 : decode cX6_findTraps 31 = .ok (.aload_n 0, 1) := by decide +kernel
theorem dX6_findTraps_32 : decode cX6_findTraps 32 = .ok (.getfield 82, 3) := by decide +kernel
theorem dX6_findTraps_35 : decode cX6_findTraps 35 = .ok (.if_icmp .ge 80, 3) := by decide +kernel
theorem dX6_findTraps_38 : decode cX6_findTraps 38 = .ok (.iconst 0, 1) := by decide +kernel
theorem dX6_findTraps_39 : decode cX6_findTraps 39 = .ok (.istore 4, 2) := by decide +kernel
theorem dX6_findTraps_41 : decode cX6_findTraps 41 = .ok (.iload 4, 2) := by decide +kernel
theorem dX6_findTraps_43 : decode cX6_findTraps 43 = .ok (.iload_n 3, 1) := by decide +kernel
theorem dX6_findTraps_44 : decode cX6_findTraps 44 = .ok (.if_icmp .ge 19, 3) := by decide +kernel
theorem dX6_findTraps_47 : decode cX6_findTraps 47 = .ok (.aload_n 0, 1) := by decide +kernel
theorem dX6_findTraps_48 : decode cX6_findTraps 48 = .ok (.iload_n 3, 1) := by decide +kernel
theorem dX6_findTraps_49 : decode cX6_findTraps 49 = .ok (.iload 4, 2) := by decide +kernel
theorem dX6_findTraps_51 : decode cX6_findTraps 51 = .ok (.invokevirtual 188, 3) := by decide +kernel
theorem dX6_findTraps_54 : decode cX6_findTraps 54 = .ok (.ifCond .ne 9, 3) := by decide +kernel
theorem dX6_findTraps_57 : decode cX6_findTraps 57 = .ok (.iinc 4 1, 3) := by decide +kernel
theorem dX6_findTraps_60 : decode cX6_findTraps 60 = .ok (.goto (-19), 3) := by decide +kernel
theorem dX6_findTraps_63 : decode cX6_findTraps 63 = .ok (.iload 4, 2) := by decide +kernel
theorem dX6_findTraps_65 : decode cX6_findTraps 65 = .ok (.iload_n 3, 1) := by decide +kernel
theorem dX6_findTraps_66 : decode cX6_findTraps 66 = .ok (.if_icmp .ge 16, 3) := by decide +kernel
theorem dX6_findTraps_69 : decode cX6_findTraps 69 = .ok (.aload_n 0, 1) := by decide +kernel
theorem dX6_findTraps_70 : decode cX6_findTraps 70 = .ok (.getfield 58, 3) := by decide +kernel
theorem dX6_findTraps_73 : decode cX6_findTraps 73 = .ok (.iconst 0, 1) := by decide +kernel
theorem dX6_findTraps_74 : decode cX6_findTraps 74 = .ok (.iload 4, 2) := by decide +kernel
theorem dX6_findTraps_76 : decode cX6_findTraps 76 = .ok (.invokestatic 184, 3) := by decide +kernel
theorem dX6_findTraps_79 : decode cX6_findTraps 79 = .ok (.goto 8, 3) := by decide +kernel
theorem dX6_findTraps_82 : decode cX6_findTraps 82 = .ok (.aload_n 0, 1) := by decide +kernel
theorem dX6_findTraps_83 : decode cX6_findTraps 83 = .ok (.iload_n 3, 1) := by decide +kernel
theorem dX6_findTraps_84 : decode cX6_findTraps 84 = .ok (.invokevirtual 197, 3) := by decide +kernel
theorem dX6_findTraps_87 : decode cX6_findTraps 87 = .ok (.istore 5, 2) := by decide +kernel
theorem dX6_findTraps_89 : decode cX6_findTraps 89 = .ok (.iload 5, 2) := by decide +kernel
theorem dX6_findTraps_91 : decode cX6_findTraps 91 = .ok (.ifCond .ne 6, 3) := by decide +kernel
theorem dX6_findTraps_94 : decode cX6_findTraps 94 = .ok (.goto 15, 3) := by decide +kernel
theorem dX6_findTraps_97 : decode cX6_findTraps 97 = .ok (.aload_n 0, 1) := by decide +kernel
theorem dX6_findTraps_98 : decode cX6_findTraps 98 = .ok (.getfield 58, 3) := by decide +kernel
theorem dX6_findTraps_101 : decode cX6_findTraps 101 = .ok (.iconst 0, 1) := by decide +kernel
theorem dX6_findTraps_102 : decode cX6_findTraps 102 = .ok (.iload_n 3, 1) := by decide +kernel
theorem dX6_findTraps_103 : decode cX6_findTraps 103 = .ok (.invokestatic 162, 3) := by decide +kernel
theorem dX6_findTraps_106 : decode cX6_findTraps 106 = .ok (.iinc 2 1, 3) := by decide +kernel
theorem dX6_findTraps_109 : decode cX6_findTraps 109 = .ok (.iinc 3 1, 3) := by decide +kernel
theorem dX6_findTraps_112 : decode cX6_findTraps 112 = .ok (.goto (-82), 3) := by decide +kernel
theorem dX6_findTraps_115 : decode cX6_findTraps 115 = .ok (.iload_n 2, 1) := by decide +kernel
theorem dX6_findTraps_116 : decode cX6_findTraps 116 = .ok (.ireturn, 1) := by decide +kernel
theorem dX6_isBadNow_0 : decode cX6_isBadNow 0 = .ok (.aload_n 0, 1) := by decide +kernel
theorem dX6_isBadNow_1 : decode cX6_isBadNow 1 = .ok (.getfield 61, 3) := by decide +kernel
theorem dX6_isBadNow_4 : decode cX6_isBadNow 4 = .ok (.iload_n 1, 1) := by decide +kernel
theorem dX6_isBadNow_5 : decode cX6_isBadNow 5 = .ok (.baload, 1) := by decide +kernel
theorem dX6_isBadNow_6 : decode cX6_isBadNow 6 = .ok (.ifCond .ne 5, 3) := by decide +kernel
theorem dX6_isBadNow_9 : decode cX6_isBadNow 9 = .ok (.iconst 0, 1) := by decide +kernel
theorem dX6_isBadNow_10 : decode cX6_isBadNow 10 = .ok (.ireturn, 1) := by decide +kernel
theorem dX6_isBadNow_11 : decode cX6_isBadNow 11 = .ok (.aload_n 0, 1) := by decide +kernel
theorem dX6_isBadNow_12 : decode cX6_isBadNow 12 = .ok (.getfield 58, 3) := by decide +kernel
theorem dX6_isBadNow_15 : decode cX6_isBadNow 15 = .ok (.iconst 0, 1) := by decide +kernel
theorem dX6_isBadNow_16 : decode cX6_isBadNow 16 = .ok (.iload_n 1, 1) := by decide +kernel
theorem dX6_isBadNow_17 : decode cX6_isBadNow 17 = .ok (.invokestatic 184, 3) := by decide +kernel
theorem dX6_isBadNow_20 : decode cX6_isBadNow 20 = .ok (.istore_n 2, 1) := by decide +kernel
theorem dX6_isBadNow_21 : decode cX6_isBadNow 21 = .ok (.iconst 0, 1) := by decide +kernel
theorem dX6_isBadNow_22 : decode cX6_isBadNow 22 = .ok (.istore_n 3, 1) := by decide +kernel
theorem dX6_isBadNow_23 : decode cX6_isBadNow 23 = .ok (.iload_n 3, 1) := by decide +kernel
theorem dX6_isBadNow_24 : decode cX6_isBadNow 24 = .ok (.bipush 7, 2) := by decide +kernel
theorem dX6_isBadNow_26 : decode cX6_isBadNow 26 = .ok (.if_icmp .ge 42, 3) := by decide +kernel
theorem dX6_isBadNow_29 : decode cX6_isBadNow 29 = .ok (.iload_n 2, 1) := by decide +kernel
theorem dX6_isBadNow_30 : decode cX6_isBadNow 30 = .ok (.ifCond .ne 26, 3) := by decide +kernel
theorem dX6_isBadNow_33 : decode cX6_isBadNow 33 = .ok (.aload_n 0, 1) := by decide +kernel
theorem dX6_isBadNow_34 : decode cX6_isBadNow 34 = .ok (.getfield 54, 3) := by decide +kernel
theorem dX6_isBadNow_37 : decode cX6_isBadNow 37 = .ok (.bipush 7, 2) := by decide +kernel
theorem dX6_isBadNow_39 : decode cX6_isBadNow 39 = .ok (.iload_n 1, 1) := by decide +kernel
theorem dX6_isBadNow_40 : decode cX6_isBadNow 40 = .ok (.imul, 1) := by decide +kernel
theorem dX6_isBadNow_41 : decode cX6_isBadNow 41 = .ok (.iload_n 3, 1) := by decide +kernel
theorem dX6_isBadNow_42 : decode cX6_isBadNow 42 = .ok (.iadd, 1) := by decide +kernel
theorem dX6_isBadNow_43 : decode cX6_isBadNow 43 = .ok (.laload, 1) := by decide +kernel
theorem dX6_isBadNow_44 : decode cX6_isBadNow 44 = .ok (.aload_n 0, 1) := by decide +kernel
theorem dX6_isBadNow_45 : decode cX6_isBadNow 45 = .ok (.getfield 58, 3) := by decide +kernel
theorem dX6_isBadNow_48 : decode cX6_isBadNow 48 = .ok (.iload_n 3, 1) := by decide +kernel
theorem dX6_isBadNow_49 : decode cX6_isBadNow 49 = .ok (.laload, 1) := by decide +kernel
theorem dX6_isBadNow_50 : decode cX6_isBadNow 50 = .ok (.land, 1) := by decide +kernel
theorem dX6_isBadNow_51 : decode cX6_isBadNow 51 = .ok (.lconst 0, 1) := by decide +kernel
theorem dX6_isBadNow_52 : decode cX6_isBadNow 52 = .ok (.lcmp, 1) := by decide +kernel
theorem dX6_isBadNow_53 : decode cX6_isBadNow 53 = .ok (.ifCond .eq 7, 3) := by decide +kernel
theorem dX6_isBadNow_56 : decode cX6_isBadNow 56 = .ok (.iconst 1, 1) := by decide +kernel
theorem dX6_isBadNow_57 : decode cX6_isBadNow 57 = .ok (.goto 4, 3) := by decide +kernel
theorem dX6_isBadNow_60 : decode cX6_isBadNow 60 = .ok (.iconst 0, 1) := by decide +kernel
theorem dX6_isBadNow_61 : decode cX6_isBadNow 61 = .ok (.istore_n 2, 1) := by decide +kernel
theorem dX6_isBadNow_62 : decode cX6_isBadNow 62 = .ok (.iinc 3 1, 3) := by decide +kernel
theorem dX6_isBadNow_65 : decode cX6_isBadNow 65 = .ok (.goto (-42), 3) := by decide +kernel
theorem dX6_isBadNow_68 : decode cX6_isBadNow 68 = .ok (.iload_n 2, 1) := by decide +kernel
theorem dX6_isBadNow_69 : decode cX6_isBadNow 69 = .ok (.ireturn, 1) := by decide +kernel
theorem dX6_leads_0 : decode cX6_leads 0 = .ok (.aload_n 0, 1) := by decide +kernel
theorem dX6_leads_1 : decode cX6_leads 1 = .ok (.aload_n 0, 1) := by decide +kernel
theorem dX6_leads_2 : decode cX6_leads 2 = .ok (.iload_n 1, 1) := by decide +kernel
theorem dX6_leads_3 : decode cX6_leads 3 = .ok (.invokevirtual 174, 3) := by decide +kernel
theorem dX6_leads_6 : decode cX6_leads 6 = .ok (.ifCond .eq 11, 3) := by decide +kernel
theorem dX6_leads_9 : decode cX6_leads 9 = .ok (.aload_n 0, 1) := by decide +kernel
theorem dX6_leads_10 : decode cX6_leads 10 = .ok (.iload_n 2, 1) := by decide +kernel
theorem dX6_leads_11 : decode cX6_leads 11 = .ok (.invokevirtual 174, 3) := by decide +kernel
theorem dX6_leads_14 : decode cX6_leads 14 = .ok (.ifCond .ne 7, 3) := by decide +kernel
theorem dX6_leads_17 : decode cX6_leads 17 = .ok (.iconst 1, 1) := by decide +kernel
theorem dX6_leads_18 : decode cX6_leads 18 = .ok (.goto 15, 3) := by decide +kernel
theorem dX6_leads_21 : decode cX6_leads 21 = .ok (.aload_n 0, 1) := by decide +kernel
theorem dX6_leads_22 : decode cX6_leads 22 = .ok (.getfield 82, 3) := by decide +kernel
theorem dX6_leads_25 : decode cX6_leads 25 = .ok (.ifCond .ne 7, 3) := by decide +kernel
theorem dX6_leads_28 : decode cX6_leads 28 = .ok (.iconst 2, 1) := by decide +kernel
theorem dX6_leads_29 : decode cX6_leads 29 = .ok (.goto 4, 3) := by decide +kernel
theorem dX6_leads_32 : decode cX6_leads 32 = .ok (.iconst 0, 1) := by decide +kernel
theorem dX6_leads_33 : decode cX6_leads 33 = .ok (.putfield 65, 3) := by decide +kernel
theorem dX6_leads_36 : decode cX6_leads 36 = .ok (.aload_n 0, 1) := by decide +kernel
theorem dX6_leads_37 : decode cX6_leads 37 = .ok (.getfield 65, 3) := by decide +kernel
theorem dX6_leads_40 : decode cX6_leads 40 = .ok (.ifCond .eq 5, 3) := by decide +kernel
theorem dX6_leads_43 : decode cX6_leads 43 = .ok (.iconst 0, 1) := by decide +kernel
theorem dX6_leads_44 : decode cX6_leads 44 = .ok (.ireturn, 1) := by decide +kernel
theorem dX6_leads_45 : decode cX6_leads 45 = .ok (.aload_n 0, 1) := by decide +kernel
theorem dX6_leads_46 : decode cX6_leads 46 = .ok (.iload_n 2, 1) := by decide +kernel
theorem dX6_leads_47 : decode cX6_leads 47 = .ok (.invokevirtual 200, 3) := by decide +kernel
theorem dX6_leads_50 : decode cX6_leads 50 = .ok (.pop, 1) := by decide +kernel
theorem dX6_leads_51 : decode cX6_leads 51 = .ok (.iconst 0, 1) := by decide +kernel
theorem dX6_leads_52 : decode cX6_leads 52 = .ok (.istore_n 3, 1) := by decide +kernel
theorem dX6_leads_53 : decode cX6_leads 53 = .ok (.iload_n 3, 1) := by decide +kernel
theorem dX6_leads_54 : decode cX6_leads 54 = .ok (.aload_n 0, 1) := by decide +kernel
theorem dX6_leads_55 : decode cX6_leads 55 = .ok (.getfield 82, 3) := by decide +kernel
theorem dX6_leads_58 : decode cX6_leads 58 = .ok (.if_icmp .ge 26, 3) := by decide +kernel
theorem dX6_leads_61 : decode cX6_leads 61 = .ok (.aload_n 0, 1) := by decide +kernel
theorem dX6_leads_62 : decode cX6_leads 62 = .ok (.iload_n 1, 1) := by decide +kernel
theorem dX6_leads_63 : decode cX6_leads 63 = .ok (.iload_n 3, 1) := by decide +kernel
theorem dX6_leads_64 : decode cX6_leads 64 = .ok (.invokevirtual 177, 3) := by decide +kernel
theorem dX6_leads_67 : decode cX6_leads 67 = .ok (.ifCond .eq 11, 3) := by decide +kernel
theorem dX6_leads_70 : decode cX6_leads 70 = .ok (.aload_n 0, 1) := by decide +kernel
theorem dX6_leads_71 : decode cX6_leads 71 = .ok (.iload_n 3, 1) := by decide +kernel
theorem dX6_leads_72 : decode cX6_leads 72 = .ok (.invokevirtual 203, 3) := by decide +kernel
theorem dX6_leads_75 : decode cX6_leads 75 = .ok (.ifCond .ne 9, 3) := by decide +kernel
theorem dX6_leads_78 : decode cX6_leads 78 = .ok (.iinc 3 1, 3) := by decide +kernel
theorem dX6_leads_81 : decode cX6_leads 81 = .ok (.goto (-28), 3) := by decide +kernel
theorem dX6_leads_84 : decode cX6_leads 84 = .ok (.iload_n 3, 1) := by decide +kernel
theorem dX6_leads_85 : decode cX6_leads 85 = .ok (.aload_n 0, 1) := by decide +kernel
theorem dX6_leads_86 : decode cX6_leads 86 = .ok (.getfield 82, 3) := by decide +kernel
theorem dX6_leads_89 : decode cX6_leads 89 = .ok (.if_icmp .ne 7, 3) := by decide +kernel
theorem dX6_leads_92 : decode cX6_leads 92 = .ok (.iconst (-1), 1) := by decide +kernel
theorem dX6_leads_93 : decode cX6_leads 93 = .ok (.goto 4, 3) := by decide +kernel
theorem dX6_leads_96 : decode cX6_leads 96 = .ok (.iload_n 3, 1) := by decide +kernel
theorem dX6_leads_97 : decode cX6_leads 97 = .ok (.ireturn, 1) := by decide +kernel
theorem dX6_isBad_0 : decode cX6_isBad 0 = .ok (.aload_n 0, 1) := by decide +kernel
theorem dX6_isBad_1 : decode cX6_isBad 1 = .ok (.aload_n 0, 1) := by decide +kernel
theorem dX6_isBad_2 : decode cX6_isBad 2 = .ok (.iload_n 1, 1) := by decide +kernel
theorem dX6_isBad_3 : decode cX6_isBad 3 = .ok (.invokevirtual 174, 3) := by decide +kernel
theorem dX6_isBad_6 : decode cX6_isBad 6 = .ok (.ifCond .eq 15, 3) := by decide +kernel
theorem dX6_isBad_9 : decode cX6_isBad 9 = .ok (.aload_n 0, 1) := by decide +kernel
theorem dX6_isBad_10 : decode cX6_isBad 10 = .ok (.iload_n 2, 1) := by decide +kernel
theorem dX6_isBad_11 : decode cX6_isBad 11 = .ok (.invokevirtual 165, 3) := by decide +kernel
theorem dX6_isBad_14 : decode cX6_isBad 14 = .ok (.ifCond .eq 7, 3) := by decide +kernel
theorem dX6_isBad_17 : decode cX6_isBad 17 = .ok (.iconst 0, 1) := by decide +kernel
theorem dX6_isBad_18 : decode cX6_isBad 18 = .ok (.goto 4, 3) := by decide +kernel
theorem dX6_isBad_21 : decode cX6_isBad 21 = .ok (.iconst 1, 1) := by decide +kernel
theorem dX6_isBad_22 : decode cX6_isBad 22 = .ok (.putfield 65, 3) := by decide +kernel
theorem dX6_isBad_25 : decode cX6_isBad 25 = .ok (.aload_n 0, 1) := by decide +kernel
theorem dX6_isBad_26 : decode cX6_isBad 26 = .ok (.getfield 65, 3) := by decide +kernel
theorem dX6_isBad_29 : decode cX6_isBad 29 = .ok (.ifCond .eq 5, 3) := by decide +kernel
theorem dX6_isBad_32 : decode cX6_isBad 32 = .ok (.iconst 0, 1) := by decide +kernel
theorem dX6_isBad_33 : decode cX6_isBad 33 = .ok (.ireturn, 1) := by decide +kernel
theorem dX6_isBad_34 : decode cX6_isBad 34 = .ok (.aload_n 0, 1) := by decide +kernel
theorem dX6_isBad_35 : decode cX6_isBad 35 = .ok (.iload_n 1, 1) := by decide +kernel
theorem dX6_isBad_36 : decode cX6_isBad 36 = .ok (.invokevirtual 200, 3) := by decide +kernel
theorem dX6_isBad_39 : decode cX6_isBad 39 = .ok (.pop, 1) := by decide +kernel
theorem dX6_isBad_40 : decode cX6_isBad 40 = .ok (.aload_n 0, 1) := by decide +kernel
theorem dX6_isBad_41 : decode cX6_isBad 41 = .ok (.iload_n 2, 1) := by decide +kernel
theorem dX6_isBad_42 : decode cX6_isBad 42 = .ok (.invokevirtual 203, 3) := by decide +kernel
theorem dX6_isBad_45 : decode cX6_isBad 45 = .ok (.ireturn, 1) := by decide +kernel
theorem dX6_trapped_0 : decode cX6_trapped 0 = .ok (.aload_n 0, 1) := by decide +kernel
theorem dX6_trapped_1 : decode cX6_trapped 1 = .ok (.aload_n 0, 1) := by decide +kernel
theorem dX6_trapped_2 : decode cX6_trapped 2 = .ok (.iload_n 1, 1) := by decide +kernel
theorem dX6_trapped_3 : decode cX6_trapped 3 = .ok (.invokevirtual 174, 3) := by decide +kernel
theorem dX6_trapped_6 : decode cX6_trapped 6 = .ok (.ifCond .ne 7, 3) := by decide +kernel
theorem dX6_trapped_9 : decode cX6_trapped 9 = .ok (.iconst 1, 1) := by decide +kernel
theorem dX6_trapped_10 : decode cX6_trapped 10 = .ok (.goto 15, 3) := by decide +kernel
theorem dX6_trapped_13 : decode cX6_trapped 13 = .ok (.aload_n 0, 1) := by decide +kernel
theorem dX6_trapped_14 : decode cX6_trapped 14 = .ok (.getfield 82, 3) := by decide +kernel
theorem dX6_trapped_17 : decode cX6_trapped 17 = .ok (.ifCond .ne 7, 3) := by decide +kernel
theorem dX6_trapped_20 : decode cX6_trapped 20 = .ok (.iconst 2, 1) := by decide +kernel
theorem dX6_trapped_21 : decode cX6_trapped 21 = .ok (.goto 4, 3) := by decide +kernel
theorem dX6_trapped_24 : decode cX6_trapped 24 = .ok (.iconst 0, 1) := by decide +kernel
theorem dX6_trapped_25 : decode cX6_trapped 25 = .ok (.putfield 65, 3) := by decide +kernel
theorem dX6_trapped_28 : decode cX6_trapped 28 = .ok (.aload_n 0, 1) := by decide +kernel
theorem dX6_trapped_29 : decode cX6_trapped 29 = .ok (.getfield 65, 3) := by decide +kernel
theorem dX6_trapped_32 : decode cX6_trapped 32 = .ok (.ifCond .ne 11, 3) := by decide +kernel
theorem dX6_trapped_35 : decode cX6_trapped 35 = .ok (.aload_n 0, 1) := by decide +kernel
theorem dX6_trapped_36 : decode cX6_trapped 36 = .ok (.iload_n 1, 1) := by decide +kernel
theorem dX6_trapped_37 : decode cX6_trapped 37 = .ok (.invokevirtual 200, 3) := by decide +kernel
theorem dX6_trapped_40 : decode cX6_trapped 40 = .ok (.goto 4, 3) := by decide +kernel
theorem dX6_trapped_43 : decode cX6_trapped 43 = .ok (.iconst 0, 1) := by decide +kernel
theorem dX6_trapped_44 : decode cX6_trapped 44 = .ok (.ireturn, 1) := by decide +kernel
theorem dX6_way_0 : decode cX6_way 0 = .ok (.aload_n 0, 1) := by decide +kernel
theorem dX6_way_1 : decode cX6_way 1 = .ok (.iconst 0, 1) := by decide +kernel
theorem dX6_way_2 : decode cX6_way 2 = .ok (.putfield 65, 3) := by decide +kernel
theorem dX6_way_5 : decode cX6_way 5 = .ok (.aload_n 0, 1) := by decide +kernel
theorem dX6_way_6 : decode cX6_way 6 = .ok (.iload_n 1, 1) := by decide +kernel
theorem dX6_way_7 : decode cX6_way 7 = .ok (.invokevirtual 165, 3) := by decide +kernel
theorem dX6_way_10 : decode cX6_way 10 = .ok (.ifCond .eq 23, 3) := by decide +kernel
theorem dX6_way_13 : decode cX6_way 13 = .ok (.iload_n 2, 1) := by decide +kernel
theorem dX6_way_14 : decode cX6_way 14 = .ok (.iconst 0, 1) := by decide +kernel
theorem dX6_way_15 : decode cX6_way 15 = .ok (.sipush 400, 3) := by decide +kernel
theorem dX6_way_18 : decode cX6_way 18 = .ok (.invokestatic 72, 3) := by decide +kernel
theorem dX6_way_21 : decode cX6_way 21 = .ok (.ifCond .eq 12, 3) := by decide +kernel
theorem dX6_way_24 : decode cX6_way 24 = .ok (.iload_n 3, 1) := by decide +kernel
theorem dX6_way_25 : decode cX6_way 25 = .ok (.iconst 0, 1) := by decide +kernel
theorem dX6_way_26 : decode cX6_way 26 = .ok (.iconst 1, 1) := by decide +kernel
theorem dX6_way_27 : decode cX6_way 27 = .ok (.invokestatic 72, 3) := by decide +kernel
theorem dX6_way_30 : decode cX6_way 30 = .ok (.ifCond .ne 9, 3) := by decide +kernel
theorem dX6_way_33 : decode cX6_way 33 = .ok (.aload_n 0, 1) := by decide +kernel
theorem dX6_way_34 : decode cX6_way 34 = .ok (.iconst 1, 1) := by decide +kernel
theorem dX6_way_35 : decode cX6_way 35 = .ok (.invokevirtual 88, 3) := by decide +kernel
theorem dX6_way_38 : decode cX6_way 38 = .ok (.ireturn, 1) := by decide +kernel
theorem dX6_way_39 : decode cX6_way 39 = .ok (.iload_n 2, 1) := by decide +kernel
theorem dX6_way_40 : decode cX6_way 40 = .ok (.aload_n 0, 1) := by decide +kernel
theorem dX6_way_41 : decode cX6_way 41 = .ok (.getfield 40, 3) := by decide +kernel
theorem dX6_way_44 : decode cX6_way 44 = .ok (.iload_n 1, 1) := by decide +kernel
theorem dX6_way_45 : decode cX6_way 45 = .ok (.iaload, 1) := by decide +kernel
theorem dX6_way_46 : decode cX6_way 46 = .ok (.if_icmp .lt 5, 3) := by decide +kernel
theorem dX6_way_49 : decode cX6_way 49 = .ok (.iconst (-1), 1) := by decide +kernel
theorem dX6_way_50 : decode cX6_way 50 = .ok (.ireturn, 1) := by decide +kernel
theorem dX6_way_51 : decode cX6_way 51 = .ok (.iload_n 1, 1) := by decide +kernel
theorem dX6_way_52 : decode cX6_way 52 = .ok (.istore 4, 2) := by decide +kernel
theorem dX6_way_54 : decode cX6_way 54 = .ok (.aload_n 0, 1) := by decide +kernel
theorem dX6_way_55 : decode cX6_way 55 = .ok (.getfield 40, 3) := by decide +kernel
theorem dX6_way_58 : decode cX6_way 58 = .ok (.iload 4, 2) := by decide +kernel
theorem dX6_way_60 : decode cX6_way 60 = .ok (.iaload, 1) := by decide +kernel
theorem dX6_way_61 : decode cX6_way 61 = .ok (.iload_n 2, 1) := by decide +kernel
theorem dX6_way_62 : decode cX6_way 62 = .ok (.iconst 1, 1) := by decide +kernel
theorem dX6_way_63 : decode cX6_way 63 = .ok (.iadd, 1) := by decide +kernel
theorem dX6_way_64 : decode cX6_way 64 = .ok (.if_icmp .le 15, 3) := by decide +kernel
theorem dX6_way_67 : decode cX6_way 67 = .ok (.aload_n 0, 1) := by decide +kernel
theorem dX6_way_68 : decode cX6_way 68 = .ok (.getfield 34, 3) := by decide +kernel
theorem dX6_way_71 : decode cX6_way 71 = .ok (.iload 4, 2) := by decide +kernel
theorem dX6_way_73 : decode cX6_way 73 = .ok (.iaload, 1) := by decide +kernel
theorem dX6_way_74 : decode cX6_way 74 = .ok (.istore 4, 2) := by decide +kernel
theorem dX6_way_76 : decode cX6_way 76 = .ok (.goto (-22), 3) := by decide +kernel
theorem dX6_way_79 : decode cX6_way 79 = .ok (.iload_n 3, 1) := by decide +kernel
theorem dX6_way_80 : decode cX6_way 80 = .ok (.ifCond .ne 13, 3) := by decide +kernel
theorem dX6_way_83 : decode cX6_way 83 = .ok (.aload_n 0, 1) := by decide +kernel
theorem dX6_way_84 : decode cX6_way 84 = .ok (.getfield 34, 3) := by decide +kernel
theorem dX6_way_87 : decode cX6_way 87 = .ok (.iload 4, 2) := by decide +kernel
theorem dX6_way_89 : decode cX6_way 89 = .ok (.iaload, 1) := by decide +kernel
theorem dX6_way_90 : decode cX6_way 90 = .ok (.goto 10, 3) := by decide +kernel
theorem dX6_way_93 : decode cX6_way 93 = .ok (.aload_n 0, 1) := by decide +kernel
theorem dX6_way_94 : decode cX6_way 94 = .ok (.getfield 37, 3) := by decide +kernel
theorem dX6_way_97 : decode cX6_way 97 = .ok (.iload 4, 2) := by decide +kernel
theorem dX6_way_99 : decode cX6_way 99 = .ok (.iaload, 1) := by decide +kernel
theorem dX6_way_100 : decode cX6_way 100 = .ok (.ireturn, 1) := by decide +kernel
theorem dX6_branching_0 : decode cX6_branching 0 = .ok (.aload_n 0, 1) := by decide +kernel
theorem dX6_branching_1 : decode cX6_branching 1 = .ok (.iconst 0, 1) := by decide +kernel
theorem dX6_branching_2 : decode cX6_branching 2 = .ok (.putfield 65, 3) := by decide +kernel
theorem dX6_branching_5 : decode cX6_branching 5 = .ok (.aload_n 0, 1) := by decide +kernel
theorem dX6_branching_6 : decode cX6_branching 6 = .ok (.getfield 82, 3) := by decide +kernel
theorem dX6_branching_9 : decode cX6_branching 9 = .ok (.ifCond .ne 7, 3) := by decide +kernel
theorem dX6_branching_12 : decode cX6_branching 12 = .ok (.dconst 0, 1) := by decide +kernel
theorem dX6_branching_13 : decode cX6_branching 13 = .ok (.goto 14, 3) := by decide +kernel
theorem dX6_branching_16 : decode cX6_branching 16 = .ok (.aload_n 0, 1) := by decide +kernel
theorem dX6_branching_17 : decode cX6_branching 17 = .ok (.getfield 85, 3) := by decide +kernel
theorem dX6_branching_20 : decode cX6_branching 20 = .ok (.i2d, 1) := by decide +kernel
theorem dX6_branching_21 : decode cX6_branching 21 = .ok (.aload_n 0, 1) := by decide +kernel
theorem dX6_branching_22 : decode cX6_branching 22 = .ok (.getfield 82, 3) := by decide +kernel
theorem dX6_branching_25 : decode cX6_branching 25 = .ok (.i2d, 1) := by decide +kernel
theorem dX6_branching_26 : decode cX6_branching 26 = .ok (.ddiv, 1) := by decide +kernel
theorem dX6_branching_27 : decode cX6_branching 27 = .ok (.dreturn, 1) := by decide +kernel
theorem dX6_digest_0 : decode cX6_digest 0 = .ok (.aload_n 0, 1) := by decide +kernel
theorem dX6_digest_1 : decode cX6_digest 1 = .ok (.iconst 0, 1) := by decide +kernel
theorem dX6_digest_2 : decode cX6_digest 2 = .ok (.putfield 65, 3) := by decide +kernel
theorem dX6_digest_5 : decode cX6_digest 5 = .ok (.ldc2_w 206, 3) := by decide +kernel
theorem dX6_digest_8 : decode cX6_digest 8 = .ok (.lstore_n 1, 1) := by decide +kernel
theorem dX6_digest_9 : decode cX6_digest 9 = .ok (.iconst 0, 1) := by decide +kernel
theorem dX6_digest_10 : decode cX6_digest 10 = .ok (.istore_n 3, 1) := by decide +kernel
theorem dX6_digest_11 : decode cX6_digest 11 = .ok (.iload_n 3, 1) := by decide +kernel
theorem dX6_digest_12 : decode cX6_digest 12 = .ok (.bipush 6, 2) := by decide +kernel
theorem dX6_digest_14 : decode cX6_digest 14 = .ok (.if_icmp .ge 22, 3) := by decide +kernel
theorem dX6_digest_17 : decode cX6_digest 17 = .ok (.lload_n 1, 1) := by decide +kernel
theorem dX6_digest_18 : decode cX6_digest 18 = .ok (.ldc2_w 208, 3) := by decide +kernel
theorem dX6_digest_21 : decode cX6_digest 21 = .ok (.lmul, 1) := by decide +kernel
theorem dX6_digest_22 : decode cX6_digest 22 = .ok (.aload_n 0, 1) := by decide +kernel
theorem dX6_digest_23 : decode cX6_digest 23 = .ok (.iload_n 3, 1) := by decide +kernel
theorem dX6_digest_24 : decode cX6_digest 24 = .ok (.invokevirtual 116, 3) := by decide +kernel
theorem dX6_digest_27 : decode cX6_digest 27 = .ok (.i2l, 1) := by decide +kernel
theorem dX6_digest_28 : decode cX6_digest 28 = .ok (.ladd, 1) := by decide +kernel
theorem dX6_digest_29 : decode cX6_digest 29 = .ok (.lstore_n 1, 1) := by decide +kernel
theorem dX6_digest_30 : decode cX6_digest 30 = .ok (.iinc 3 1, 3) := by decide +kernel
theorem dX6_digest_33 : decode cX6_digest 33 = .ok (.goto (-22), 3) := by decide +kernel
theorem dX6_digest_36 : decode cX6_digest 36 = .ok (.iconst 0, 1) := by decide +kernel
theorem dX6_digest_37 : decode cX6_digest 37 = .ok (.istore_n 3, 1) := by decide +kernel
theorem dX6_digest_38 : decode cX6_digest 38 = .ok (.iload_n 3, 1) := by decide +kernel
theorem dX6_digest_39 : decode cX6_digest 39 = .ok (.aload_n 0, 1) := by decide +kernel
theorem dX6_digest_40 : decode cX6_digest 40 = .ok (.getfield 82, 3) := by decide +kernel
theorem dX6_digest_43 : decode cX6_digest 43 = .ok (.if_icmp .ge 156, 3) := by decide +kernel
theorem dX6_digest_46 : decode cX6_digest 46 = .ok (.iconst 0, 1) := by decide +kernel
theorem dX6_digest_47 : decode cX6_digest 47 = .ok (.istore 4, 2) := by decide +kernel
theorem dX6_digest_49 : decode cX6_digest 49 = .ok (.iload 4, 2) := by decide +kernel
theorem dX6_digest_51 : decode cX6_digest 51 = .ok (.aload_n 0, 1) := by decide +kernel
theorem dX6_digest_52 : decode cX6_digest 52 = .ok (.getfield 69, 3) := by decide +kernel
theorem dX6_digest_55 : decode cX6_digest 55 = .ok (.if_icmp .ge 28, 3) := by decide +kernel
theorem dX6_digest_58 : decode cX6_digest 58 = .ok (.lload_n 1, 1) := by decide +kernel
theorem dX6_digest_59 : decode cX6_digest 59 = .ok (.ldc2_w 208, 3) := by decide +kernel
theorem dX6_digest_62 : decode cX6_digest 62 = .ok (.lmul, 1) := by decide +kernel
theorem dX6_digest_63 : decode cX6_digest 63 = .ok (.aload_n 0, 1) := by decide +kernel
theorem dX6_digest_64 : decode cX6_digest 64 = .ok (.getfield 28, 3) := by decide +kernel
theorem dX6_digest_67 : decode cX6_digest 67 = .ok (.iload_n 3, 1) := by decide +kernel
theorem dX6_digest_68 : decode cX6_digest 68 = .ok (.iaload, 1) := by decide +kernel
theorem dX6_digest_69 : decode cX6_digest 69 = .ok (.iload 4, 2) := by decide +kernel
theorem dX6_digest_71 : decode cX6_digest 71 = .ok (.invokestatic 129, 3) := by decide +kernel
theorem dX6_digest_74 : decode cX6_digest 74 = .ok (.i2l, 1) := by decide +kernel
theorem dX6_digest_75 : decode cX6_digest 75 = .ok (.ladd, 1) := by decide +kernel
theorem dX6_digest_76 : decode cX6_digest 76 = .ok (.lstore_n 1, 1) := by decide +kernel
theorem dX6_digest_77 : decode cX6_digest 77 = .ok (.iinc 4 1, 3) := by decide +kernel
theorem dX6_digest_80 : decode cX6_digest 80 = .ok (.goto (-31), 3) := by decide +kernel
theorem dX6_digest_83 : decode cX6_digest 83 = .ok (.iconst 0, 1) := by decide +kernel
theorem dX6_digest_84 : decode cX6_digest 84 = .ok (.istore 4, 2) := by decide +kernel
theorem dX6_digest_86 : decode cX6_digest 86 = .ok (.iload 4, 2) := by decide +kernel
theorem dX6_digest_88 : decode cX6_digest 88 = .ok (.aload_n 0, 1) := by decide +kernel
theorem dX6_digest_89 : decode cX6_digest 89 = .ok (.getfield 76, 3) := by decide +kernel
theorem dX6_digest_92 : decode cX6_digest 92 = .ok (.if_icmp .ge 28, 3) := by decide +kernel
theorem dX6_digest_95 : decode cX6_digest 95 = .ok (.lload_n 1, 1) := by decide +kernel
theorem dX6_digest_96 : decode cX6_digest 96 = .ok (.ldc2_w 208, 3) := by decide +kernel
theorem dX6_digest_99 : decode cX6_digest 99 = .ok (.lmul, 1) := by decide +kernel
theorem dX6_digest_100 : decode cX6_digest 100 = .ok (.aload_n 0, 1) := by decide +kernel
theorem dX6_digest_101 : decode cX6_digest 101 = .ok (.getfield 28, 3) := by decide +kernel
theorem dX6_digest_104 : decode cX6_digest 104 = .ok (.iload_n 3, 1) := by decide +kernel
theorem dX6_digest_105 : decode cX6_digest 105 = .ok (.iaload, 1) := by decide +kernel
theorem dX6_digest_106 : decode cX6_digest 106 = .ok (.iload 4, 2) := by decide +kernel
theorem dX6_digest_108 : decode cX6_digest 108 = .ok (.invokestatic 119, 3) := by decide +kernel
theorem dX6_digest_111 : decode cX6_digest 111 = .ok (.i2l, 1) := by decide +kernel
theorem dX6_digest_112 : decode cX6_digest 112 = .ok (.ladd, 1) := by decide +kernel
theorem dX6_digest_113 : decode cX6_digest 113 = .ok (.lstore_n 1, 1) := by decide +kernel
theorem dX6_digest_114 : decode cX6_digest 114 = .ok (.iinc 4 1, 3) := by decide +kernel
theorem dX6_digest_117 : decode cX6_digest 117 = .ok (.goto (-31), 3) := by decide +kernel
theorem dX6_digest_120 : decode cX6_digest 120 = .ok (.lload_n 1, 1) := by decide +kernel
theorem dX6_digest_121 : decode cX6_digest 121 = .ok (.ldc2_w 208, 3) := by decide +kernel
theorem dX6_digest_124 : decode cX6_digest 124 = .ok (.lmul, 1) := by decide +kernel
theorem dX6_digest_125 : decode cX6_digest 125 = .ok (.aload_n 0, 1) := by decide +kernel
theorem dX6_digest_126 : decode cX6_digest 126 = .ok (.getfield 43, 3) := by decide +kernel
theorem dX6_digest_129 : decode cX6_digest 129 = .ok (.iload_n 3, 1) := by decide +kernel
theorem dX6_digest_130 : decode cX6_digest 130 = .ok (.iaload, 1) := by decide +kernel
theorem dX6_digest_131 : decode cX6_digest 131 = .ok (.i2l, 1) := by decide +kernel
theorem dX6_digest_132 : decode cX6_digest 132 = .ok (.ladd, 1) := by decide +kernel
theorem dX6_digest_133 : decode cX6_digest 133 = .ok (.lstore_n 1, 1) := by decide +kernel
theorem dX6_digest_134 : decode cX6_digest 134 = .ok (.aload_n 0, 1) := by decide +kernel
theorem dX6_digest_135 : decode cX6_digest 135 = .ok (.aload_n 0, 1) := by decide +kernel
theorem dX6_digest_136 : decode cX6_digest 136 = .ok (.getfield 28, 3) := by decide +kernel
theorem dX6_digest_139 : decode cX6_digest 139 = .ok (.iload_n 3, 1) := by decide +kernel
theorem dX6_digest_140 : decode cX6_digest 140 = .ok (.iaload, 1) := by decide +kernel
theorem dX6_digest_141 : decode cX6_digest 141 = .ok (.invokevirtual 155, 3) := by decide +kernel
theorem dX6_digest_144 : decode cX6_digest 144 = .ok (.iconst 0, 1) := by decide +kernel
theorem dX6_digest_145 : decode cX6_digest 145 = .ok (.istore 4, 2) := by decide +kernel
theorem dX6_digest_147 : decode cX6_digest 147 = .ok (.iload 4, 2) := by decide +kernel
theorem dX6_digest_149 : decode cX6_digest 149 = .ok (.aload_n 0, 1) := by decide +kernel
theorem dX6_digest_150 : decode cX6_digest 150 = .ok (.getfield 138, 3) := by decide +kernel
theorem dX6_digest_153 : decode cX6_digest 153 = .ok (.if_icmp .ge 40, 3) := by decide +kernel
theorem dX6_digest_156 : decode cX6_digest 156 = .ok (.iconst 0, 1) := by decide +kernel
theorem dX6_digest_157 : decode cX6_digest 157 = .ok (.istore 5, 2) := by decide +kernel
theorem dX6_digest_159 : decode cX6_digest 159 = .ok (.iload 5, 2) := by decide +kernel
theorem dX6_digest_161 : decode cX6_digest 161 = .ok (.iconst 5, 1) := by decide +kernel
theorem dX6_digest_162 : decode cX6_digest 162 = .ok (.if_icmp .ge 25, 3) := by decide +kernel
theorem dX6_digest_165 : decode cX6_digest 165 = .ok (.lload_n 1, 1) := by decide +kernel
theorem dX6_digest_166 : decode cX6_digest 166 = .ok (.ldc2_w 208, 3) := by decide +kernel
theorem dX6_digest_169 : decode cX6_digest 169 = .ok (.lmul, 1) := by decide +kernel
theorem dX6_digest_170 : decode cX6_digest 170 = .ok (.aload_n 0, 1) := by decide +kernel
theorem dX6_digest_171 : decode cX6_digest 171 = .ok (.iload 4, 2) := by decide +kernel
theorem dX6_digest_173 : decode cX6_digest 173 = .ok (.iload 5, 2) := by decide +kernel
theorem dX6_digest_175 : decode cX6_digest 175 = .ok (.invokevirtual 171, 3) := by decide +kernel
theorem dX6_digest_178 : decode cX6_digest 178 = .ok (.i2l, 1) := by decide +kernel
theorem dX6_digest_179 : decode cX6_digest 179 = .ok (.ladd, 1) := by decide +kernel
theorem dX6_digest_180 : decode cX6_digest 180 = .ok (.lstore_n 1, 1) := by decide +kernel
theorem dX6_digest_181 : decode cX6_digest 181 = .ok (.iinc 5 1, 3) := by decide +kernel
theorem dX6_digest_184 : decode cX6_digest 184 = .ok (.goto (-25), 3) := by decide +kernel
theorem dX6_digest_187 : decode cX6_digest 187 = .ok (.iinc 4 1, 3) := by decide +kernel
theorem dX6_digest_190 : decode cX6_digest 190 = .ok (.goto (-43), 3) := by decide +kernel
theorem dX6_digest_193 : decode cX6_digest 193 = .ok (.iinc 3 1, 3) := by decide +kernel
theorem dX6_digest_196 : decode cX6_digest 196 = .ok (.goto (-158), 3) := by decide +kernel
theorem dX6_digest_199 : decode cX6_digest 199 = .ok (.iconst 0, 1) := by decide +kernel
theorem dX6_digest_200 : decode cX6_digest 200 = .ok (.istore_n 3, 1) := by decide +kernel
theorem dX6_digest_201 : decode cX6_digest 201 = .ok (.iload_n 3, 1) := by decide +kernel
theorem dX6_digest_202 : decode cX6_digest 202 = .ok (.aload_n 0, 1) := by decide +kernel
theorem dX6_digest_203 : decode cX6_digest 203 = .ok (.getfield 79, 3) := by decide +kernel
theorem dX6_digest_206 : decode cX6_digest 206 = .ok (.if_icmp .ge 29, 3) := by decide +kernel
theorem dX6_digest_209 : decode cX6_digest 209 = .ok (.aload_n 0, 1) := by decide +kernel
theorem dX6_digest_210 : decode cX6_digest 210 = .ok (.getfield 82, 3) := by decide +kernel
theorem dX6_digest_213 : decode cX6_digest 213 = .ok (.ifCond .le 22, 3) := by decide +kernel
theorem dX6_digest_216 : decode cX6_digest 216 = .ok (.lload_n 1, 1) := by decide +kernel
theorem dX6_digest_217 : decode cX6_digest 217 = .ok (.ldc2_w 208, 3) := by decide +kernel
theorem dX6_digest_220 : decode cX6_digest 220 = .ok (.lmul, 1) := by decide +kernel
theorem dX6_digest_221 : decode cX6_digest 221 = .ok (.aload_n 0, 1) := by decide +kernel
theorem dX6_digest_222 : decode cX6_digest 222 = .ok (.iload_n 3, 1) := by decide +kernel
theorem dX6_digest_223 : decode cX6_digest 223 = .ok (.invokevirtual 181, 3) := by decide +kernel
theorem dX6_digest_226 : decode cX6_digest 226 = .ok (.i2l, 1) := by decide +kernel
theorem dX6_digest_227 : decode cX6_digest 227 = .ok (.ladd, 1) := by decide +kernel
theorem dX6_digest_228 : decode cX6_digest 228 = .ok (.lstore_n 1, 1) := by decide +kernel
theorem dX6_digest_229 : decode cX6_digest 229 = .ok (.iinc 3 1, 3) := by decide +kernel
theorem dX6_digest_232 : decode cX6_digest 232 = .ok (.goto (-31), 3) := by decide +kernel
theorem dX6_digest_235 : decode cX6_digest 235 = .ok (.lload_n 1, 1) := by decide +kernel
theorem dX6_digest_236 : decode cX6_digest 236 = .ok (.lreturn, 1) := by decide +kernel
theorem dJ9_min_7cf53_0 : decode cJ9_min_7cf53 0 = .ok (.iload_n 0, 1) := by decide +kernel
theorem dJ9_min_7cf53_1 : decode cJ9_min_7cf53 1 = .ok (.iload_n 1, 1) := by decide +kernel
theorem dJ9_min_7cf53_2 : decode cJ9_min_7cf53 2 = .ok (.if_icmp .gt 7, 3) := by decide +kernel
theorem dJ9_min_7cf53_5 : decode cJ9_min_7cf53 5 = .ok (.iload_n 0, 1) := by decide +kernel
theorem dJ9_min_7cf53_6 : decode cJ9_min_7cf53 6 = .ok (.goto 4, 3) := by decide +kernel
theorem dJ9_min_7cf53_9 : decode cJ9_min_7cf53 9 = .ok (.iload_n 1, 1) := by decide +kernel
theorem dJ9_min_7cf53_10 : decode cJ9_min_7cf53 10 = .ok (.ireturn, 1) := by decide +kernel
theorem dJ7_fill_53178_0 : decode cJ7_fill_53178 0 = .ok (.iconst 0, 1) := by decide +kernel
theorem dJ7_fill_53178_1 : decode cJ7_fill_53178 1 = .ok (.istore_n 2, 1) := by decide +kernel
theorem dJ7_fill_53178_2 : decode cJ7_fill_53178 2 = .ok (.aload_n 0, 1) := by decide +kernel
theorem dJ7_fill_53178_3 : decode cJ7_fill_53178 3 = .ok (.arraylength, 1) := by decide +kernel
theorem dJ7_fill_53178_4 : decode cJ7_fill_53178 4 = .ok (.istore_n 3, 1) := by decide +kernel
theorem dJ7_fill_53178_5 : decode cJ7_fill_53178 5 = .ok (.iload_n 2, 1) := by decide +kernel
theorem dJ7_fill_53178_6 : decode cJ7_fill_53178 6 = .ok (.iload_n 3, 1) := by decide +kernel
theorem dJ7_fill_53178_7 : decode cJ7_fill_53178 7 = .ok (.if_icmp .ge 13, 3) := by decide +kernel
theorem dJ7_fill_53178_10 : decode cJ7_fill_53178 10 = .ok (.aload_n 0, 1) := by decide +kernel
theorem dJ7_fill_53178_11 : decode cJ7_fill_53178 11 = .ok (.iload_n 2, 1) := by decide +kernel
theorem dJ7_fill_53178_12 : decode cJ7_fill_53178 12 = .ok (.iload_n 1, 1) := by decide +kernel
theorem dJ7_fill_53178_13 : decode cJ7_fill_53178 13 = .ok (.iastore, 1) := by decide +kernel
theorem dJ7_fill_53178_14 : decode cJ7_fill_53178 14 = .ok (.iinc 2 1, 3) := by decide +kernel
theorem dJ7_fill_53178_17 : decode cJ7_fill_53178 17 = .ok (.goto (-12), 3) := by decide +kernel
theorem dJ7_fill_53178_20 : decode cJ7_fill_53178 20 = .ok (.return_, 1) := by decide +kernel
theorem dJ7_copyOf_59c91_0 : decode cJ7_copyOf_59c91 0 = .ok (.iload_n 1, 1) := by decide +kernel
theorem dJ7_copyOf_59c91_1 : decode cJ7_copyOf_59c91 1 = .ok (.aload_n 0, 1) := by decide +kernel
theorem dJ7_copyOf_59c91_2 : decode cJ7_copyOf_59c91 2 = .ok (.arraylength, 1) := by decide +kernel
theorem dJ7_copyOf_59c91_3 : decode cJ7_copyOf_59c91 3 = .ok (.if_icmp .ne 11, 3) := by decide +kernel
theorem dJ7_copyOf_59c91_6 : decode cJ7_copyOf_59c91 6 = .ok (.aload_n 0, 1) := by decide +kernel
theorem dJ7_copyOf_59c91_7 : decode cJ7_copyOf_59c91 7 = .ok (.invokevirtual 316, 3) := by decide +kernel
theorem dJ7_copyOf_59c91_10 : decode cJ7_copyOf_59c91 10 = .ok (.checkcast 317, 3) := by decide +kernel
theorem dJ7_copyOf_59c91_13 : decode cJ7_copyOf_59c91 13 = .ok (.areturn, 1) := by decide +kernel
theorem dJ7_copyOf_59c91_14 : decode cJ7_copyOf_59c91 14 = .ok (.iload_n 1, 1) := by decide +kernel
theorem dJ7_copyOf_59c91_15 : decode cJ7_copyOf_59c91 15 = .ok (.newarray .int, 2) := by decide +kernel
theorem dJ7_copyOf_59c91_17 : decode cJ7_copyOf_59c91 17 = .ok (.astore_n 2, 1) := by decide +kernel
theorem dJ7_copyOf_59c91_18 : decode cJ7_copyOf_59c91 18 = .ok (.aload_n 0, 1) := by decide +kernel
theorem dJ7_copyOf_59c91_19 : decode cJ7_copyOf_59c91 19 = .ok (.iconst 0, 1) := by decide +kernel
theorem dJ7_copyOf_59c91_20 : decode cJ7_copyOf_59c91 20 = .ok (.aload_n 2, 1) := by decide +kernel
theorem dJ7_copyOf_59c91_21 : decode cJ7_copyOf_59c91 21 = .ok (.iconst 0, 1) := by decide +kernel
theorem dJ7_copyOf_59c91_22 : decode cJ7_copyOf_59c91 22 = .ok (.aload_n 0, 1) := by decide +kernel
theorem dJ7_copyOf_59c91_23 : decode cJ7_copyOf_59c91 23 = .ok (.arraylength, 1) := by decide +kernel
theorem dJ7_copyOf_59c91_24 : decode cJ7_copyOf_59c91 24 = .ok (.iload_n 1, 1) := by decide +kernel
theorem dJ7_copyOf_59c91_25 : decode cJ7_copyOf_59c91 25 = .ok (.invokestatic 304, 3) := by decide +kernel
theorem dJ7_copyOf_59c91_28 : decode cJ7_copyOf_59c91 28 = .ok (.invokestatic 150, 3) := by decide +kernel
theorem dJ7_copyOf_59c91_31 : decode cJ7_copyOf_59c91 31 = .ok (.aload_n 2, 1) := by decide +kernel
theorem dJ7_copyOf_59c91_32 : decode cJ7_copyOf_59c91 32 = .ok (.areturn, 1) := by decide +kernel
theorem dL_addProcess_0 : decode cL_addProcess 0 = .ok (.aload_n 2, 1) := by decide +kernel
theorem dL_addProcess_1 : decode cL_addProcess 1 = .ok (.iconst 0, 1) := by decide +kernel
theorem dL_addProcess_2 : decode cL_addProcess 2 = .ok (.aload_n 0, 1) := by decide +kernel
theorem dL_addProcess_3 : decode cL_addProcess 3 = .ok (.iload_n 1, 1) := by decide +kernel
theorem dL_addProcess_4 : decode cL_addProcess 4 = .ok (.invokevirtual 7, 3) := by decide +kernel
theorem dL_addProcess_7 : decode cL_addProcess 7 = .ok (.i2l, 1) := by decide +kernel
theorem dL_addProcess_8 : decode cL_addProcess 8 = .ok (.lastore, 1) := by decide +kernel
theorem dL_addProcess_9 : decode cL_addProcess 9 = .ok (.goto 9, 3) := by decide +kernel
theorem dL_addProcess_12 : decode cL_addProcess 12 = .ok (.astore_n 3, 1) := by decide +kernel
theorem dL_addProcess_13 : decode cL_addProcess 13 = .ok (.iconst 1, 1) := by decide +kernel
theorem dL_addProcess_14 : decode cL_addProcess 14 = .ok (.ireturn, 1) := by decide +kernel
theorem dL_addProcess_15 : decode cL_addProcess 15 = .ok (.astore_n 3, 1) := by decide +kernel
theorem dL_addProcess_16 : decode cL_addProcess 16 = .ok (.iconst 2, 1) := by decide +kernel
theorem dL_addProcess_17 : decode cL_addProcess 17 = .ok (.ireturn, 1) := by decide +kernel
theorem dL_addProcess_18 : decode cL_addProcess 18 = .ok (.iconst 0, 1) := by decide +kernel
theorem dL_addProcess_19 : decode cL_addProcess 19 = .ok (.ireturn, 1) := by decide +kernel
theorem dL_addVariable_0 : decode cL_addVariable 0 = .ok (.aload_n 3, 1) := by decide +kernel
theorem dL_addVariable_1 : decode cL_addVariable 1 = .ok (.iconst 0, 1) := by decide +kernel
theorem dL_addVariable_2 : decode cL_addVariable 2 = .ok (.aload_n 0, 1) := by decide +kernel
theorem dL_addVariable_3 : decode cL_addVariable 3 = .ok (.iload_n 1, 1) := by decide +kernel
theorem dL_addVariable_4 : decode cL_addVariable 4 = .ok (.iload_n 2, 1) := by decide +kernel
theorem dL_addVariable_5 : decode cL_addVariable 5 = .ok (.invokevirtual 17, 3) := by decide +kernel
theorem dL_addVariable_8 : decode cL_addVariable 8 = .ok (.i2l, 1) := by decide +kernel
theorem dL_addVariable_9 : decode cL_addVariable 9 = .ok (.lastore, 1) := by decide +kernel
theorem dL_addVariable_10 : decode cL_addVariable 10 = .ok (.goto 11, 3) := by decide +kernel
theorem dL_addVariable_13 : decode cL_addVariable 13 = .ok (.astore 4, 2) := by decide +kernel
theorem dL_addVariable_15 : decode cL_addVariable 15 = .ok (.iconst 1, 1) := by decide +kernel
theorem dL_addVariable_16 : decode cL_addVariable 16 = .ok (.ireturn, 1) := by decide +kernel
theorem dL_addVariable_17 : decode cL_addVariable 17 = .ok (.astore 4, 2) := by decide +kernel
theorem dL_addVariable_19 : decode cL_addVariable 19 = .ok (.iconst 2, 1) := by decide +kernel
theorem dL_addVariable_20 : decode cL_addVariable 20 = .ok (.ireturn, 1) := by decide +kernel
theorem dL_addVariable_21 : decode cL_addVariable 21 = .ok (.iconst 0, 1) := by decide +kernel
theorem dL_addVariable_22 : decode cL_addVariable 22 = .ok (.ireturn, 1) := by decide +kernel
theorem dL_addMove_0 : decode cL_addMove 0 = .ok (.aload 5, 2) := by decide +kernel
theorem dL_addMove_2 : decode cL_addMove 2 = .ok (.iconst 0, 1) := by decide +kernel
theorem dL_addMove_3 : decode cL_addMove 3 = .ok (.aload_n 0, 1) := by decide +kernel
theorem dL_addMove_4 : decode cL_addMove 4 = .ok (.iload_n 1, 1) := by decide +kernel
theorem dL_addMove_5 : decode cL_addMove 5 = .ok (.iload_n 2, 1) := by decide +kernel
theorem dL_addMove_6 : decode cL_addMove 6 = .ok (.iload_n 3, 1) := by decide +kernel
theorem dL_addMove_7 : decode cL_addMove 7 = .ok (.iload 4, 2) := by decide +kernel
theorem dL_addMove_9 : decode cL_addMove 9 = .ok (.invokevirtual 21, 3) := by decide +kernel
theorem dL_addMove_12 : decode cL_addMove 12 = .ok (.i2l, 1) := by decide +kernel
theorem dL_addMove_13 : decode cL_addMove 13 = .ok (.lastore, 1) := by decide +kernel
theorem dL_addMove_14 : decode cL_addMove 14 = .ok (.goto 15, 3) := by decide +kernel
theorem dL_addMove_17 : decode cL_addMove 17 = .ok (.astore 6, 2) := by decide +kernel
theorem dL_addMove_19 : decode cL_addMove 19 = .ok (.iconst 1, 1) := by decide +kernel
theorem dL_addMove_20 : decode cL_addMove 20 = .ok (.ireturn, 1) := by decide +kernel
theorem dL_addMove_21 : decode cL_addMove 21 = .ok (.astore 6, 2) := by decide +kernel
theorem dL_addMove_23 : decode cL_addMove 23 = .ok (.iconst 2, 1) := by decide +kernel
theorem dL_addMove_24 : decode cL_addMove 24 = .ok (.ireturn, 1) := by decide +kernel
theorem dL_addMove_25 : decode cL_addMove 25 = .ok (.astore 6, 2) := by decide +kernel
theorem dL_addMove_27 : decode cL_addMove 27 = .ok (.iconst 3, 1) := by decide +kernel
theorem dL_addMove_28 : decode cL_addMove 28 = .ok (.ireturn, 1) := by decide +kernel
theorem dL_addMove_29 : decode cL_addMove 29 = .ok (.iconst 0, 1) := by decide +kernel
theorem dL_addMove_30 : decode cL_addMove 30 = .ok (.ireturn, 1) := by decide +kernel
theorem dL_guard_0 : decode cL_guard 0 = .ok (.aload 6, 2) := by decide +kernel
theorem dL_guard_2 : decode cL_guard 2 = .ok (.iconst 0, 1) := by decide +kernel
theorem dL_guard_3 : decode cL_guard 3 = .ok (.aload_n 0, 1) := by decide +kernel
theorem dL_guard_4 : decode cL_guard 4 = .ok (.iload_n 1, 1) := by decide +kernel
theorem dL_guard_5 : decode cL_guard 5 = .ok (.iload_n 2, 1) := by decide +kernel
theorem dL_guard_6 : decode cL_guard 6 = .ok (.iload_n 3, 1) := by decide +kernel
theorem dL_guard_7 : decode cL_guard 7 = .ok (.iload 4, 2) := by decide +kernel
theorem dL_guard_9 : decode cL_guard 9 = .ok (.iload 5, 2) := by decide +kernel
theorem dL_guard_11 : decode cL_guard 11 = .ok (.invokevirtual 27, 3) := by decide +kernel
theorem dL_guard_14 : decode cL_guard 14 = .ok (.i2l, 1) := by decide +kernel
theorem dL_guard_15 : decode cL_guard 15 = .ok (.lastore, 1) := by decide +kernel
theorem dL_guard_16 : decode cL_guard 16 = .ok (.goto 11, 3) := by decide +kernel
theorem dL_guard_19 : decode cL_guard 19 = .ok (.astore 7, 2) := by decide +kernel
theorem dL_guard_21 : decode cL_guard 21 = .ok (.iconst 1, 1) := by decide +kernel
theorem dL_guard_22 : decode cL_guard 22 = .ok (.ireturn, 1) := by decide +kernel
theorem dL_guard_23 : decode cL_guard 23 = .ok (.astore 7, 2) := by decide +kernel
theorem dL_guard_25 : decode cL_guard 25 = .ok (.iconst 2, 1) := by decide +kernel
theorem dL_guard_26 : decode cL_guard 26 = .ok (.ireturn, 1) := by decide +kernel
theorem dL_guard_27 : decode cL_guard 27 = .ok (.iconst 0, 1) := by decide +kernel
theorem dL_guard_28 : decode cL_guard 28 = .ok (.ireturn, 1) := by decide +kernel
theorem dL_deed_0 : decode cL_deed 0 = .ok (.aload 6, 2) := by decide +kernel
theorem dL_deed_2 : decode cL_deed 2 = .ok (.iconst 0, 1) := by decide +kernel
theorem dL_deed_3 : decode cL_deed 3 = .ok (.aload_n 0, 1) := by decide +kernel
theorem dL_deed_4 : decode cL_deed 4 = .ok (.iload_n 1, 1) := by decide +kernel
theorem dL_deed_5 : decode cL_deed 5 = .ok (.iload_n 2, 1) := by decide +kernel
theorem dL_deed_6 : decode cL_deed 6 = .ok (.iload_n 3, 1) := by decide +kernel
theorem dL_deed_7 : decode cL_deed 7 = .ok (.iload 4, 2) := by decide +kernel
theorem dL_deed_9 : decode cL_deed 9 = .ok (.iload 5, 2) := by decide +kernel
theorem dL_deed_11 : decode cL_deed 11 = .ok (.invokevirtual 31, 3) := by decide +kernel
theorem dL_deed_14 : decode cL_deed 14 = .ok (.i2l, 1) := by decide +kernel
theorem dL_deed_15 : decode cL_deed 15 = .ok (.lastore, 1) := by decide +kernel
theorem dL_deed_16 : decode cL_deed 16 = .ok (.goto 11, 3) := by decide +kernel
theorem dL_deed_19 : decode cL_deed 19 = .ok (.astore 7, 2) := by decide +kernel
theorem dL_deed_21 : decode cL_deed 21 = .ok (.iconst 1, 1) := by decide +kernel
theorem dL_deed_22 : decode cL_deed 22 = .ok (.ireturn, 1) := by decide +kernel
theorem dL_deed_23 : decode cL_deed 23 = .ok (.astore 7, 2) := by decide +kernel
theorem dL_deed_25 : decode cL_deed 25 = .ok (.iconst 2, 1) := by decide +kernel
theorem dL_deed_26 : decode cL_deed 26 = .ok (.ireturn, 1) := by decide +kernel
theorem dL_deed_27 : decode cL_deed 27 = .ok (.iconst 0, 1) := by decide +kernel
theorem dL_deed_28 : decode cL_deed 28 = .ok (.ireturn, 1) := by decide +kernel
theorem dL_count_0 : decode cL_count 0 = .ok (.aload_n 2, 1) := by decide +kernel
theorem dL_count_1 : decode cL_count 1 = .ok (.iconst 0, 1) := by decide +kernel
theorem dL_count_2 : decode cL_count 2 = .ok (.aload_n 0, 1) := by decide +kernel
theorem dL_count_3 : decode cL_count 3 = .ok (.iload_n 1, 1) := by decide +kernel
theorem dL_count_4 : decode cL_count 4 = .ok (.invokevirtual 34, 3) := by decide +kernel
theorem dL_count_7 : decode cL_count 7 = .ok (.i2l, 1) := by decide +kernel
theorem dL_count_8 : decode cL_count 8 = .ok (.lastore, 1) := by decide +kernel
theorem dL_count_9 : decode cL_count 9 = .ok (.goto 6, 3) := by decide +kernel
theorem dL_count_12 : decode cL_count 12 = .ok (.astore_n 3, 1) := by decide +kernel
theorem dL_count_13 : decode cL_count 13 = .ok (.iconst 1, 1) := by decide +kernel
theorem dL_count_14 : decode cL_count 14 = .ok (.ireturn, 1) := by decide +kernel
theorem dL_count_15 : decode cL_count 15 = .ok (.iconst 0, 1) := by decide +kernel
theorem dL_count_16 : decode cL_count 16 = .ok (.ireturn, 1) := by decide +kernel
theorem dL_explore_0 : decode cL_explore 0 = .ok (.aload_n 1, 1) := by decide +kernel
theorem dL_explore_1 : decode cL_explore 1 = .ok (.iconst 0, 1) := by decide +kernel
theorem dL_explore_2 : decode cL_explore 2 = .ok (.aload_n 0, 1) := by decide +kernel
theorem dL_explore_3 : decode cL_explore 3 = .ok (.invokevirtual 37, 3) := by decide +kernel
theorem dL_explore_6 : decode cL_explore 6 = .ok (.i2l, 1) := by decide +kernel
theorem dL_explore_7 : decode cL_explore 7 = .ok (.lastore, 1) := by decide +kernel
theorem dL_explore_8 : decode cL_explore 8 = .ok (.goto 6, 3) := by decide +kernel
theorem dL_explore_11 : decode cL_explore 11 = .ok (.astore_n 2, 1) := by decide +kernel
theorem dL_explore_12 : decode cL_explore 12 = .ok (.iconst 1, 1) := by decide +kernel
theorem dL_explore_13 : decode cL_explore 13 = .ok (.ireturn, 1) := by decide +kernel
theorem dL_explore_14 : decode cL_explore 14 = .ok (.iconst 0, 1) := by decide +kernel
theorem dL_explore_15 : decode cL_explore 15 = .ok (.ireturn, 1) := by decide +kernel
theorem dL_state_0 : decode cL_state 0 = .ok (.aload_n 3, 1) := by decide +kernel
theorem dL_state_1 : decode cL_state 1 = .ok (.iconst 0, 1) := by decide +kernel
theorem dL_state_2 : decode cL_state 2 = .ok (.aload_n 0, 1) := by decide +kernel
theorem dL_state_3 : decode cL_state 3 = .ok (.iload_n 1, 1) := by decide +kernel
theorem dL_state_4 : decode cL_state 4 = .ok (.iload_n 2, 1) := by decide +kernel
theorem dL_state_5 : decode cL_state 5 = .ok (.invokevirtual 41, 3) := by decide +kernel
theorem dL_state_8 : decode cL_state 8 = .ok (.i2l, 1) := by decide +kernel
theorem dL_state_9 : decode cL_state 9 = .ok (.lastore, 1) := by decide +kernel
theorem dL_state_10 : decode cL_state 10 = .ok (.goto 7, 3) := by decide +kernel
theorem dL_state_13 : decode cL_state 13 = .ok (.astore 4, 2) := by decide +kernel
theorem dL_state_15 : decode cL_state 15 = .ok (.iconst 1, 1) := by decide +kernel
theorem dL_state_16 : decode cL_state 16 = .ok (.ireturn, 1) := by decide +kernel
theorem dL_state_17 : decode cL_state 17 = .ok (.iconst 0, 1) := by decide +kernel
theorem dL_state_18 : decode cL_state 18 = .ok (.ireturn, 1) := by decide +kernel
theorem dL_step_0 : decode cL_step 0 = .ok (.aload 4, 2) := by decide +kernel
theorem dL_step_2 : decode cL_step 2 = .ok (.iconst 0, 1) := by decide +kernel
theorem dL_step_3 : decode cL_step 3 = .ok (.aload_n 0, 1) := by decide +kernel
theorem dL_step_4 : decode cL_step 4 = .ok (.iload_n 1, 1) := by decide +kernel
theorem dL_step_5 : decode cL_step 5 = .ok (.iload_n 2, 1) := by decide +kernel
theorem dL_step_6 : decode cL_step 6 = .ok (.iload_n 3, 1) := by decide +kernel
theorem dL_step_7 : decode cL_step 7 = .ok (.invokevirtual 44, 3) := by decide +kernel
theorem dL_step_10 : decode cL_step 10 = .ok (.i2l, 1) := by decide +kernel
theorem dL_step_11 : decode cL_step 11 = .ok (.lastore, 1) := by decide +kernel
theorem dL_step_12 : decode cL_step 12 = .ok (.goto 7, 3) := by decide +kernel
theorem dL_step_15 : decode cL_step 15 = .ok (.astore 5, 2) := by decide +kernel
theorem dL_step_17 : decode cL_step 17 = .ok (.iconst 1, 1) := by decide +kernel
theorem dL_step_18 : decode cL_step 18 = .ok (.ireturn, 1) := by decide +kernel
theorem dL_step_19 : decode cL_step 19 = .ok (.iconst 0, 1) := by decide +kernel
theorem dL_step_20 : decode cL_step 20 = .ok (.ireturn, 1) := by decide +kernel
theorem dL_addFact_0 : decode cL_addFact 0 = .ok (.aload 4, 2) := by decide +kernel
theorem dL_addFact_2 : decode cL_addFact 2 = .ok (.iconst 0, 1) := by decide +kernel
theorem dL_addFact_3 : decode cL_addFact 3 = .ok (.aload_n 0, 1) := by decide +kernel
theorem dL_addFact_4 : decode cL_addFact 4 = .ok (.iload_n 1, 1) := by decide +kernel
theorem dL_addFact_5 : decode cL_addFact 5 = .ok (.iload_n 2, 1) := by decide +kernel
theorem dL_addFact_6 : decode cL_addFact 6 = .ok (.iload_n 3, 1) := by decide +kernel
theorem dL_addFact_7 : decode cL_addFact 7 = .ok (.invokevirtual 48, 3) := by decide +kernel
theorem dL_addFact_10 : decode cL_addFact 10 = .ok (.i2l, 1) := by decide +kernel
theorem dL_addFact_11 : decode cL_addFact 11 = .ok (.lastore, 1) := by decide +kernel
theorem dL_addFact_12 : decode cL_addFact 12 = .ok (.goto 11, 3) := by decide +kernel
theorem dL_addFact_15 : decode cL_addFact 15 = .ok (.astore 5, 2) := by decide +kernel
theorem dL_addFact_17 : decode cL_addFact 17 = .ok (.iconst 1, 1) := by decide +kernel
theorem dL_addFact_18 : decode cL_addFact 18 = .ok (.ireturn, 1) := by decide +kernel
theorem dL_addFact_19 : decode cL_addFact 19 = .ok (.astore 5, 2) := by decide +kernel
theorem dL_addFact_21 : decode cL_addFact 21 = .ok (.iconst 2, 1) := by decide +kernel
theorem dL_addFact_22 : decode cL_addFact 22 = .ok (.ireturn, 1) := by decide +kernel
theorem dL_addFact_23 : decode cL_addFact 23 = .ok (.iconst 0, 1) := by decide +kernel
theorem dL_addFact_24 : decode cL_addFact 24 = .ok (.ireturn, 1) := by decide +kernel
theorem dL_holds_0 : decode cL_holds 0 = .ok (.aload_n 3, 1) := by decide +kernel
theorem dL_holds_1 : decode cL_holds 1 = .ok (.iconst 0, 1) := by decide +kernel
theorem dL_holds_2 : decode cL_holds 2 = .ok (.aload_n 0, 1) := by decide +kernel
theorem dL_holds_3 : decode cL_holds 3 = .ok (.iload_n 1, 1) := by decide +kernel
theorem dL_holds_4 : decode cL_holds 4 = .ok (.iload_n 2, 1) := by decide +kernel
theorem dL_holds_5 : decode cL_holds 5 = .ok (.invokevirtual 51, 3) := by decide +kernel
theorem dL_holds_8 : decode cL_holds 8 = .ok (.ifCond .eq 7, 3) := by decide +kernel
theorem dL_holds_11 : decode cL_holds 11 = .ok (.lconst 1, 1) := by decide +kernel
theorem dL_holds_12 : decode cL_holds 12 = .ok (.goto 4, 3) := by decide +kernel
theorem dL_holds_15 : decode cL_holds 15 = .ok (.lconst 0, 1) := by decide +kernel
theorem dL_holds_16 : decode cL_holds 16 = .ok (.lastore, 1) := by decide +kernel
theorem dL_holds_17 : decode cL_holds 17 = .ok (.goto 7, 3) := by decide +kernel
theorem dL_holds_20 : decode cL_holds 20 = .ok (.astore 4, 2) := by decide +kernel
theorem dL_holds_22 : decode cL_holds 22 = .ok (.iconst 1, 1) := by decide +kernel
theorem dL_holds_23 : decode cL_holds 23 = .ok (.ireturn, 1) := by decide +kernel
theorem dL_holds_24 : decode cL_holds 24 = .ok (.iconst 0, 1) := by decide +kernel
theorem dL_holds_25 : decode cL_holds 25 = .ok (.ireturn, 1) := by decide +kernel
theorem dL_where_0 : decode cL_where 0 = .ok (.aload_n 3, 1) := by decide +kernel
theorem dL_where_1 : decode cL_where 1 = .ok (.iconst 0, 1) := by decide +kernel
theorem dL_where_2 : decode cL_where 2 = .ok (.aload_n 0, 1) := by decide +kernel
theorem dL_where_3 : decode cL_where 3 = .ok (.iload_n 1, 1) := by decide +kernel
theorem dL_where_4 : decode cL_where 4 = .ok (.iload_n 2, 1) := by decide +kernel
theorem dL_where_5 : decode cL_where 5 = .ok (.invokevirtual 55, 3) := by decide +kernel
theorem dL_where_8 : decode cL_where 8 = .ok (.i2l, 1) := by decide +kernel
theorem dL_where_9 : decode cL_where 9 = .ok (.lastore, 1) := by decide +kernel
theorem dL_where_10 : decode cL_where 10 = .ok (.goto 11, 3) := by decide +kernel
theorem dL_where_13 : decode cL_where 13 = .ok (.astore 4, 2) := by decide +kernel
theorem dL_where_15 : decode cL_where 15 = .ok (.iconst 1, 1) := by decide +kernel
theorem dL_where_16 : decode cL_where 16 = .ok (.ireturn, 1) := by decide +kernel
theorem dL_where_17 : decode cL_where 17 = .ok (.astore 4, 2) := by decide +kernel
theorem dL_where_19 : decode cL_where 19 = .ok (.iconst 2, 1) := by decide +kernel
theorem dL_where_20 : decode cL_where 20 = .ok (.ireturn, 1) := by decide +kernel
theorem dL_where_21 : decode cL_where 21 = .ok (.iconst 0, 1) := by decide +kernel
theorem dL_where_22 : decode cL_where 22 = .ok (.ireturn, 1) := by decide +kernel
theorem dL_stuck_0 : decode cL_stuck 0 = .ok (.aload_n 1, 1) := by decide +kernel
theorem dL_stuck_1 : decode cL_stuck 1 = .ok (.iconst 0, 1) := by decide +kernel
theorem dL_stuck_2 : decode cL_stuck 2 = .ok (.aload_n 0, 1) := by decide +kernel
theorem dL_stuck_3 : decode cL_stuck 3 = .ok (.invokevirtual 59, 3) := by decide +kernel
theorem dL_stuck_6 : decode cL_stuck 6 = .ok (.i2l, 1) := by decide +kernel
theorem dL_stuck_7 : decode cL_stuck 7 = .ok (.lastore, 1) := by decide +kernel
theorem dL_stuck_8 : decode cL_stuck 8 = .ok (.goto 6, 3) := by decide +kernel
theorem dL_stuck_11 : decode cL_stuck 11 = .ok (.astore_n 2, 1) := by decide +kernel
theorem dL_stuck_12 : decode cL_stuck 12 = .ok (.iconst 1, 1) := by decide +kernel
theorem dL_stuck_13 : decode cL_stuck 13 = .ok (.ireturn, 1) := by decide +kernel
theorem dL_stuck_14 : decode cL_stuck 14 = .ok (.iconst 0, 1) := by decide +kernel
theorem dL_stuck_15 : decode cL_stuck 15 = .ok (.ireturn, 1) := by decide +kernel
theorem dL_leads_0 : decode cL_leads 0 = .ok (.aload_n 3, 1) := by decide +kernel
theorem dL_leads_1 : decode cL_leads 1 = .ok (.iconst 0, 1) := by decide +kernel
theorem dL_leads_2 : decode cL_leads 2 = .ok (.aload_n 0, 1) := by decide +kernel
theorem dL_leads_3 : decode cL_leads 3 = .ok (.iload_n 1, 1) := by decide +kernel
theorem dL_leads_4 : decode cL_leads 4 = .ok (.iload_n 2, 1) := by decide +kernel
theorem dL_leads_5 : decode cL_leads 5 = .ok (.invokevirtual 62, 3) := by decide +kernel
theorem dL_leads_8 : decode cL_leads 8 = .ok (.i2l, 1) := by decide +kernel
theorem dL_leads_9 : decode cL_leads 9 = .ok (.lastore, 1) := by decide +kernel
theorem dL_leads_10 : decode cL_leads 10 = .ok (.goto 11, 3) := by decide +kernel
theorem dL_leads_13 : decode cL_leads 13 = .ok (.astore 4, 2) := by decide +kernel
theorem dL_leads_15 : decode cL_leads 15 = .ok (.iconst 1, 1) := by decide +kernel
theorem dL_leads_16 : decode cL_leads 16 = .ok (.ireturn, 1) := by decide +kernel
theorem dL_leads_17 : decode cL_leads 17 = .ok (.astore 4, 2) := by decide +kernel
theorem dL_leads_19 : decode cL_leads 19 = .ok (.iconst 2, 1) := by decide +kernel
theorem dL_leads_20 : decode cL_leads 20 = .ok (.ireturn, 1) := by decide +kernel
theorem dL_leads_21 : decode cL_leads 21 = .ok (.iconst 0, 1) := by decide +kernel
theorem dL_leads_22 : decode cL_leads 22 = .ok (.ireturn, 1) := by decide +kernel
theorem dL_isBad_0 : decode cL_isBad 0 = .ok (.aload_n 3, 1) := by decide +kernel
theorem dL_isBad_1 : decode cL_isBad 1 = .ok (.iconst 0, 1) := by decide +kernel
theorem dL_isBad_2 : decode cL_isBad 2 = .ok (.aload_n 0, 1) := by decide +kernel
theorem dL_isBad_3 : decode cL_isBad 3 = .ok (.iload_n 1, 1) := by decide +kernel
theorem dL_isBad_4 : decode cL_isBad 4 = .ok (.iload_n 2, 1) := by decide +kernel
theorem dL_isBad_5 : decode cL_isBad 5 = .ok (.invokevirtual 65, 3) := by decide +kernel
theorem dL_isBad_8 : decode cL_isBad 8 = .ok (.ifCond .eq 7, 3) := by decide +kernel
theorem dL_isBad_11 : decode cL_isBad 11 = .ok (.lconst 1, 1) := by decide +kernel
theorem dL_isBad_12 : decode cL_isBad 12 = .ok (.goto 4, 3) := by decide +kernel
theorem dL_isBad_15 : decode cL_isBad 15 = .ok (.lconst 0, 1) := by decide +kernel
theorem dL_isBad_16 : decode cL_isBad 16 = .ok (.lastore, 1) := by decide +kernel
theorem dL_isBad_17 : decode cL_isBad 17 = .ok (.goto 7, 3) := by decide +kernel
theorem dL_isBad_20 : decode cL_isBad 20 = .ok (.astore 4, 2) := by decide +kernel
theorem dL_isBad_22 : decode cL_isBad 22 = .ok (.iconst 1, 1) := by decide +kernel
theorem dL_isBad_23 : decode cL_isBad 23 = .ok (.ireturn, 1) := by decide +kernel
theorem dL_isBad_24 : decode cL_isBad 24 = .ok (.iconst 0, 1) := by decide +kernel
theorem dL_isBad_25 : decode cL_isBad 25 = .ok (.ireturn, 1) := by decide +kernel
theorem dL_trapped_0 : decode cL_trapped 0 = .ok (.aload_n 2, 1) := by decide +kernel
theorem dL_trapped_1 : decode cL_trapped 1 = .ok (.iconst 0, 1) := by decide +kernel
theorem dL_trapped_2 : decode cL_trapped 2 = .ok (.aload_n 0, 1) := by decide +kernel
theorem dL_trapped_3 : decode cL_trapped 3 = .ok (.iload_n 1, 1) := by decide +kernel
theorem dL_trapped_4 : decode cL_trapped 4 = .ok (.invokevirtual 68, 3) := by decide +kernel
theorem dL_trapped_7 : decode cL_trapped 7 = .ok (.i2l, 1) := by decide +kernel
theorem dL_trapped_8 : decode cL_trapped 8 = .ok (.lastore, 1) := by decide +kernel
theorem dL_trapped_9 : decode cL_trapped 9 = .ok (.goto 9, 3) := by decide +kernel
theorem dL_trapped_12 : decode cL_trapped 12 = .ok (.astore_n 3, 1) := by decide +kernel
theorem dL_trapped_13 : decode cL_trapped 13 = .ok (.iconst 1, 1) := by decide +kernel
theorem dL_trapped_14 : decode cL_trapped 14 = .ok (.ireturn, 1) := by decide +kernel
theorem dL_trapped_15 : decode cL_trapped 15 = .ok (.astore_n 3, 1) := by decide +kernel
theorem dL_trapped_16 : decode cL_trapped 16 = .ok (.iconst 2, 1) := by decide +kernel
theorem dL_trapped_17 : decode cL_trapped 17 = .ok (.ireturn, 1) := by decide +kernel
theorem dL_trapped_18 : decode cL_trapped 18 = .ok (.iconst 0, 1) := by decide +kernel
theorem dL_trapped_19 : decode cL_trapped 19 = .ok (.ireturn, 1) := by decide +kernel
theorem dL_way_0 : decode cL_way 0 = .ok (.aload 4, 2) := by decide +kernel
theorem dL_way_2 : decode cL_way 2 = .ok (.iconst 0, 1) := by decide +kernel
theorem dL_way_3 : decode cL_way 3 = .ok (.aload_n 0, 1) := by decide +kernel
theorem dL_way_4 : decode cL_way 4 = .ok (.iload_n 1, 1) := by decide +kernel
theorem dL_way_5 : decode cL_way 5 = .ok (.iload_n 2, 1) := by decide +kernel
theorem dL_way_6 : decode cL_way 6 = .ok (.iload_n 3, 1) := by decide +kernel
theorem dL_way_7 : decode cL_way 7 = .ok (.invokevirtual 71, 3) := by decide +kernel
theorem dL_way_10 : decode cL_way 10 = .ok (.i2l, 1) := by decide +kernel
theorem dL_way_11 : decode cL_way 11 = .ok (.lastore, 1) := by decide +kernel
theorem dL_way_12 : decode cL_way 12 = .ok (.goto 7, 3) := by decide +kernel
theorem dL_way_15 : decode cL_way 15 = .ok (.astore 5, 2) := by decide +kernel
theorem dL_way_17 : decode cL_way 17 = .ok (.iconst 1, 1) := by decide +kernel
theorem dL_way_18 : decode cL_way 18 = .ok (.ireturn, 1) := by decide +kernel
theorem dL_way_19 : decode cL_way 19 = .ok (.iconst 0, 1) := by decide +kernel
theorem dL_way_20 : decode cL_way 20 = .ok (.ireturn, 1) := by decide +kernel
theorem dL_law_0 : decode cL_law 0 = .ok (.new 8, 3) := by decide +kernel
theorem dL_law_3 : decode cL_law 3 = .ok (.dup, 1) := by decide +kernel
theorem dL_law_4 : decode cL_law 4 = .ok (.invokespecial 74, 3) := by decide +kernel
theorem dL_law_7 : decode cL_law 7 = .ok (.astore_n 1, 1) := by decide +kernel
theorem dL_law_8 : decode cL_law 8 = .ok (.new 75, 3) := by decide +kernel
theorem dL_law_11 : decode cL_law 11 = .ok (.dup, 1) := by decide +kernel
theorem dL_law_12 : decode cL_law 12 = .ok (.invokespecial 77, 3) := by decide +kernel
theorem dL_law_15 : decode cL_law 15 = .ok (.astore_n 2, 1) := by decide +kernel
theorem dL_law_16 : decode cL_law 16 = .ok (.iconst 1, 1) := by decide +kernel
theorem dL_law_17 : decode cL_law 17 = .ok (.newarray .long, 2) := by decide +kernel
theorem dL_law_19 : decode cL_law 19 = .ok (.astore_n 3, 1) := by decide +kernel
theorem dL_law_20 : decode cL_law 20 = .ok (.iconst 0, 1) := by decide +kernel
theorem dL_law_21 : decode cL_law 21 = .ok (.istore 4, 2) := by decide +kernel
theorem dL_law_23 : decode cL_law 23 = .ok (.iload 4, 2) := by decide +kernel
theorem dL_law_25 : decode cL_law 25 = .ok (.aload_n 0, 1) := by decide +kernel
theorem dL_law_26 : decode cL_law 26 = .ok (.arraylength, 1) := by decide +kernel
theorem dL_law_27 : decode cL_law 27 = .ok (.bipush 6, 2) := by decide +kernel
theorem dL_law_29 : decode cL_law 29 = .ok (.isub, 1) := by decide +kernel
theorem dL_law_30 : decode cL_law 30 = .ok (.if_icmp .gt 1397, 3) := by decide +kernel
theorem dL_law_33 : decode cL_law 33 = .ok (.aload_n 0, 1) := by decide +kernel
theorem dL_law_34 : decode cL_law 34 = .ok (.iload 4, 2) := by decide +kernel
theorem dL_law_36 : decode cL_law 36 = .ok (.iaload, 1) := by decide +kernel
theorem dL_law_37 : decode cL_law 37 = .ok (.bipush 31, 2) := by decide +kernel
theorem dL_law_39 : decode cL_law 39 = .ok (.iand, 1) := by decide +kernel
theorem dL_law_40 : decode cL_law 40 = .ok (.tableswitch 1381 0 18 #[92, 148, 216, 308, 412, 516, 572, 616, 684, 764, 844, 919, 1003, 1047, 1115, 1190, 1246, 1326, 1367], 92) := by decide +kernel
theorem dL_law_132 : decode cL_law 132 = .ok (.aload_n 1, 1) := by decide +kernel
theorem dL_law_133 : decode cL_law 133 = .ok (.aload_n 0, 1) := by decide +kernel
theorem dL_law_134 : decode cL_law 134 = .ok (.iload 4, 2) := by decide +kernel
theorem dL_law_136 : decode cL_law 136 = .ok (.iconst 1, 1) := by decide +kernel
theorem dL_law_137 : decode cL_law 137 = .ok (.iadd, 1) := by decide +kernel
theorem dL_law_138 : decode cL_law 138 = .ok (.iaload, 1) := by decide +kernel
theorem dL_law_139 : decode cL_law 139 = .ok (.aload_n 3, 1) := by decide +kernel
theorem dL_law_140 : decode cL_law 140 = .ok (.invokestatic 78, 3) := by decide +kernel
theorem dL_law_143 : decode cL_law 143 = .ok (.istore 5, 2) := by decide +kernel
theorem dL_law_145 : decode cL_law 145 = .ok (.aload_n 2, 1) := by decide +kernel
theorem dL_law_146 : decode cL_law 146 = .ok (.aload_n 0, 1) := by decide +kernel
theorem dL_law_147 : decode cL_law 147 = .ok (.iload 4, 2) := by decide +kernel
theorem dL_law_149 : decode cL_law 149 = .ok (.iconst 1, 1) := by decide +kernel
theorem dL_law_150 : decode cL_law 150 = .ok (.iadd, 1) := by decide +kernel
theorem dL_law_151 : decode cL_law 151 = .ok (.iaload, 1) := by decide +kernel
theorem dL_law_152 : decode cL_law 152 = .ok (.invokevirtual 83, 3) := by decide +kernel
theorem dL_law_155 : decode cL_law 155 = .ok (.istore 6, 2) := by decide +kernel
theorem dL_law_157 : decode cL_law 157 = .ok (.aload_n 2, 1) := by decide +kernel
theorem dL_law_158 : decode cL_law 158 = .ok (.invokevirtual 84, 3) := by decide +kernel
theorem dL_law_161 : decode cL_law 161 = .ok (.iload 5, 2) := by decide +kernel
theorem dL_law_163 : decode cL_law 163 = .ok (.if_icmp .eq 5, 3) := by decide +kernel
theorem dL_law_166 : decode cL_law 166 = .ok (.iconst 0, 1) := by decide +kernel
theorem dL_law_167 : decode cL_law 167 = .ok (.ireturn, 1) := by decide +kernel
theorem dL_law_168 : decode cL_law 168 = .ok (.iload 5, 2) := by decide +kernel
theorem dL_law_170 : decode cL_law 170 = .ok (.ifCond .ne 15, 3) := by decide +kernel
theorem dL_law_173 : decode cL_law 173 = .ok (.aload_n 3, 1) := by decide +kernel
theorem dL_law_174 : decode cL_law 174 = .ok (.iconst 0, 1) := by decide +kernel
theorem dL_law_175 : decode cL_law 175 = .ok (.laload, 1) := by decide +kernel
theorem dL_law_176 : decode cL_law 176 = .ok (.iload 6, 2) := by decide +kernel
theorem dL_law_178 : decode cL_law 178 = .ok (.i2l, 1) := by decide +kernel
theorem dL_law_179 : decode cL_law 179 = .ok (.lcmp, 1) := by decide +kernel
theorem dL_law_180 : decode cL_law 180 = .ok (.ifCond .eq 5, 3) := by decide +kernel
theorem dL_law_183 : decode cL_law 183 = .ok (.iconst 0, 1) := by decide +kernel
theorem dL_law_184 : decode cL_law 184 = .ok (.ireturn, 1) := by decide +kernel
theorem dL_law_185 : decode cL_law 185 = .ok (.goto 1236, 3) := by decide +kernel
theorem dL_law_188 : decode cL_law 188 = .ok (.aload_n 1, 1) := by decide +kernel
theorem dL_law_189 : decode cL_law 189 = .ok (.aload_n 0, 1) := by decide +kernel
theorem dL_law_190 : decode cL_law 190 = .ok (.iload 4, 2) := by decide +kernel
theorem dL_law_192 : decode cL_law 192 = .ok (.iconst 1, 1) := by decide +kernel
theorem dL_law_193 : decode cL_law 193 = .ok (.iadd, 1) := by decide +kernel
theorem dL_law_194 : decode cL_law 194 = .ok (.iaload, 1) := by decide +kernel
theorem dL_law_195 : decode cL_law 195 = .ok (.aload_n 0, 1) := by decide +kernel
theorem dL_law_196 : decode cL_law 196 = .ok (.iload 4, 2) := by decide +kernel
theorem dL_law_198 : decode cL_law 198 = .ok (.iconst 2, 1) := by decide +kernel
theorem dL_law_199 : decode cL_law 199 = .ok (.iadd, 1) := by decide +kernel
theorem dL_law_200 : decode cL_law 200 = .ok (.iaload, 1) := by decide +kernel
theorem dL_law_201 : decode cL_law 201 = .ok (.aload_n 3, 1) := by decide +kernel
theorem dL_law_202 : decode cL_law 202 = .ok (.invokestatic 87, 3) := by decide +kernel
theorem dL_law_205 : decode cL_law 205 = .ok (.istore 5, 2) := by decide +kernel
theorem dL_law_207 : decode cL_law 207 = .ok (.aload_n 2, 1) := by decide +kernel
theorem dL_law_208 : decode cL_law 208 = .ok (.aload_n 0, 1) := by decide +kernel
theorem dL_law_209 : decode cL_law 209 = .ok (.iload 4, 2) := by decide +kernel
theorem dL_law_211 : decode cL_law 211 = .ok (.iconst 1, 1) := by decide +kernel
theorem dL_law_212 : decode cL_law 212 = .ok (.iadd, 1) := by decide +kernel
theorem dL_law_213 : decode cL_law 213 = .ok (.iaload, 1) := by decide +kernel
theorem dL_law_214 : decode cL_law 214 = .ok (.aload_n 0, 1) := by decide +kernel
theorem dL_law_215 : decode cL_law 215 = .ok (.iload 4, 2) := by decide +kernel
theorem dL_law_217 : decode cL_law 217 = .ok (.iconst 2, 1) := by decide +kernel
theorem dL_law_218 : decode cL_law 218 = .ok (.iadd, 1) := by decide +kernel
theorem dL_law_219 : decode cL_law 219 = .ok (.iaload, 1) := by decide +kernel
theorem dL_law_220 : decode cL_law 220 = .ok (.invokevirtual 90, 3) := by decide +kernel
theorem dL_law_223 : decode cL_law 223 = .ok (.istore 6, 2) := by decide +kernel
theorem dL_law_225 : decode cL_law 225 = .ok (.aload_n 2, 1) := by decide +kernel
theorem dL_law_226 : decode cL_law 226 = .ok (.invokevirtual 84, 3) := by decide +kernel
theorem dL_law_229 : decode cL_law 229 = .ok (.iload 5, 2) := by decide +kernel
theorem dL_law_231 : decode cL_law 231 = .ok (.if_icmp .eq 5, 3) := by decide +kernel
theorem dL_law_234 : decode cL_law 234 = .ok (.iconst 0, 1) := by decide +kernel
theorem dL_law_235 : decode cL_law 235 = .ok (.ireturn, 1) := by decide +kernel
theorem dL_law_236 : decode cL_law 236 = .ok (.iload 5, 2) := by decide +kernel
theorem dL_law_238 : decode cL_law 238 = .ok (.ifCond .ne 15, 3) := by decide +kernel
theorem dL_law_241 : decode cL_law 241 = .ok (.aload_n 3, 1) := by decide +kernel
theorem dL_law_242 : decode cL_law 242 = .ok (.iconst 0, 1) := by decide +kernel
theorem dL_law_243 : decode cL_law 243 = .ok (.laload, 1) := by decide +kernel
theorem dL_law_244 : decode cL_law 244 = .ok (.iload 6, 2) := by decide +kernel
theorem dL_law_246 : decode cL_law 246 = .ok (.i2l, 1) := by decide +kernel
theorem dL_law_247 : decode cL_law 247 = .ok (.lcmp, 1) := by decide +kernel
theorem dL_law_248 : decode cL_law 248 = .ok (.ifCond .eq 5, 3) := by decide +kernel
theorem dL_law_251 : decode cL_law 251 = .ok (.iconst 0, 1) := by decide +kernel
theorem dL_law_252 : decode cL_law 252 = .ok (.ireturn, 1) := by decide +kernel
theorem dL_law_253 : decode cL_law 253 = .ok (.goto 1168, 3) := by decide +kernel
theorem dL_law_256 : decode cL_law 256 = .ok (.aload_n 1, 1) := by decide +kernel
theorem dL_law_257 : decode cL_law 257 = .ok (.aload_n 0, 1) := by decide +kernel
theorem dL_law_258 : decode cL_law 258 = .ok (.iload 4, 2) := by decide +kernel
theorem dL_law_260 : decode cL_law 260 = .ok (.iconst 1, 1) := by decide +kernel
theorem dL_law_261 : decode cL_law 261 = .ok (.iadd, 1) := by decide +kernel
theorem dL_law_262 : decode cL_law 262 = .ok (.iaload, 1) := by decide +kernel
theorem dL_law_263 : decode cL_law 263 = .ok (.aload_n 0, 1) := by decide +kernel
theorem dL_law_264 : decode cL_law 264 = .ok (.iload 4, 2) := by decide +kernel
theorem dL_law_266 : decode cL_law 266 = .ok (.iconst 2, 1) := by decide +kernel
theorem dL_law_267 : decode cL_law 267 = .ok (.iadd, 1) := by decide +kernel
theorem dL_law_268 : decode cL_law 268 = .ok (.iaload, 1) := by decide +kernel
theorem dL_law_269 : decode cL_law 269 = .ok (.aload_n 0, 1) := by decide +kernel
theorem dL_law_270 : decode cL_law 270 = .ok (.iload 4, 2) := by decide +kernel
theorem dL_law_272 : decode cL_law 272 = .ok (.iconst 3, 1) := by decide +kernel
theorem dL_law_273 : decode cL_law 273 = .ok (.iadd, 1) := by decide +kernel
theorem dL_law_274 : decode cL_law 274 = .ok (.iaload, 1) := by decide +kernel
theorem dL_law_275 : decode cL_law 275 = .ok (.aload_n 0, 1) := by decide +kernel
theorem dL_law_276 : decode cL_law 276 = .ok (.iload 4, 2) := by decide +kernel
theorem dL_law_278 : decode cL_law 278 = .ok (.iconst 4, 1) := by decide +kernel
theorem dL_law_279 : decode cL_law 279 = .ok (.iadd, 1) := by decide +kernel
theorem dL_law_280 : decode cL_law 280 = .ok (.iaload, 1) := by decide +kernel
theorem dL_law_281 : decode cL_law 281 = .ok (.aload_n 3, 1) := by decide +kernel
theorem dL_law_282 : decode cL_law 282 = .ok (.invokestatic 91, 3) := by decide +kernel
theorem dL_law_285 : decode cL_law 285 = .ok (.istore 5, 2) := by decide +kernel
theorem dL_law_287 : decode cL_law 287 = .ok (.aload_n 2, 1) := by decide +kernel
theorem dL_law_288 : decode cL_law 288 = .ok (.aload_n 0, 1) := by decide +kernel
theorem dL_law_289 : decode cL_law 289 = .ok (.iload 4, 2) := by decide +kernel
theorem dL_law_291 : decode cL_law 291 = .ok (.iconst 1, 1) := by decide +kernel
theorem dL_law_292 : decode cL_law 292 = .ok (.iadd, 1) := by decide +kernel
theorem dL_law_293 : decode cL_law 293 = .ok (.iaload, 1) := by decide +kernel
theorem dL_law_294 : decode cL_law 294 = .ok (.aload_n 0, 1) := by decide +kernel
theorem dL_law_295 : decode cL_law 295 = .ok (.iload 4, 2) := by decide +kernel
theorem dL_law_297 : decode cL_law 297 = .ok (.iconst 2, 1) := by decide +kernel
theorem dL_law_298 : decode cL_law 298 = .ok (.iadd, 1) := by decide +kernel
theorem dL_law_299 : decode cL_law 299 = .ok (.iaload, 1) := by decide +kernel
theorem dL_law_300 : decode cL_law 300 = .ok (.aload_n 0, 1) := by decide +kernel
theorem dL_law_301 : decode cL_law 301 = .ok (.iload 4, 2) := by decide +kernel
theorem dL_law_303 : decode cL_law 303 = .ok (.iconst 3, 1) := by decide +kernel
theorem dL_law_304 : decode cL_law 304 = .ok (.iadd, 1) := by decide +kernel
theorem dL_law_305 : decode cL_law 305 = .ok (.iaload, 1) := by decide +kernel
theorem dL_law_306 : decode cL_law 306 = .ok (.aload_n 0, 1) := by decide +kernel
theorem dL_law_307 : decode cL_law 307 = .ok (.iload 4, 2) := by decide +kernel
theorem dL_law_309 : decode cL_law 309 = .ok (.iconst 4, 1) := by decide +kernel
theorem dL_law_310 : decode cL_law 310 = .ok (.iadd, 1) := by decide +kernel
theorem dL_law_311 : decode cL_law 311 = .ok (.iaload, 1) := by decide +kernel
theorem dL_law_312 : decode cL_law 312 = .ok (.invokevirtual 94, 3) := by decide +kernel
theorem dL_law_315 : decode cL_law 315 = .ok (.istore 6, 2) := by decide +kernel
theorem dL_law_317 : decode cL_law 317 = .ok (.aload_n 2, 1) := by decide +kernel
theorem dL_law_318 : decode cL_law 318 = .ok (.invokevirtual 84, 3) := by decide +kernel
theorem dL_law_321 : decode cL_law 321 = .ok (.iload 5, 2) := by decide +kernel
theorem dL_law_323 : decode cL_law 323 = .ok (.if_icmp .eq 5, 3) := by decide +kernel
theorem dL_law_326 : decode cL_law 326 = .ok (.iconst 0, 1) := by decide +kernel
theorem dL_law_327 : decode cL_law 327 = .ok (.ireturn, 1) := by decide +kernel
theorem dL_law_328 : decode cL_law 328 = .ok (.iload 5, 2) := by decide +kernel
theorem dL_law_330 : decode cL_law 330 = .ok (.ifCond .ne 15, 3) := by decide +kernel
theorem dL_law_333 : decode cL_law 333 = .ok (.aload_n 3, 1) := by decide +kernel
theorem dL_law_334 : decode cL_law 334 = .ok (.iconst 0, 1) := by decide +kernel
theorem dL_law_335 : decode cL_law 335 = .ok (.laload, 1) := by decide +kernel
theorem dL_law_336 : decode cL_law 336 = .ok (.iload 6, 2) := by decide +kernel
theorem dL_law_338 : decode cL_law 338 = .ok (.i2l, 1) := by decide +kernel
theorem dL_law_339 : decode cL_law 339 = .ok (.lcmp, 1) := by decide +kernel
theorem dL_law_340 : decode cL_law 340 = .ok (.ifCond .eq 5, 3) := by decide +kernel
theorem dL_law_343 : decode cL_law 343 = .ok (.iconst 0, 1) := by decide +kernel
theorem dL_law_344 : decode cL_law 344 = .ok (.ireturn, 1) := by decide +kernel
theorem dL_law_345 : decode cL_law 345 = .ok (.goto 1076, 3) := by decide +kernel
theorem dL_law_348 : decode cL_law 348 = .ok (.aload_n 1, 1) := by decide +kernel
theorem dL_law_349 : decode cL_law 349 = .ok (.aload_n 0, 1) := by decide +kernel
theorem dL_law_350 : decode cL_law 350 = .ok (.iload 4, 2) := by decide +kernel
theorem dL_law_352 : decode cL_law 352 = .ok (.iconst 1, 1) := by decide +kernel
theorem dL_law_353 : decode cL_law 353 = .ok (.iadd, 1) := by decide +kernel
theorem dL_law_354 : decode cL_law 354 = .ok (.iaload, 1) := by decide +kernel
theorem dL_law_355 : decode cL_law 355 = .ok (.aload_n 0, 1) := by decide +kernel
theorem dL_law_356 : decode cL_law 356 = .ok (.iload 4, 2) := by decide +kernel
theorem dL_law_358 : decode cL_law 358 = .ok (.iconst 2, 1) := by decide +kernel
theorem dL_law_359 : decode cL_law 359 = .ok (.iadd, 1) := by decide +kernel
theorem dL_law_360 : decode cL_law 360 = .ok (.iaload, 1) := by decide +kernel
theorem dL_law_361 : decode cL_law 361 = .ok (.aload_n 0, 1) := by decide +kernel
theorem dL_law_362 : decode cL_law 362 = .ok (.iload 4, 2) := by decide +kernel
theorem dL_law_364 : decode cL_law 364 = .ok (.iconst 3, 1) := by decide +kernel
theorem dL_law_365 : decode cL_law 365 = .ok (.iadd, 1) := by decide +kernel
theorem dL_law_366 : decode cL_law 366 = .ok (.iaload, 1) := by decide +kernel
theorem dL_law_367 : decode cL_law 367 = .ok (.aload_n 0, 1) := by decide +kernel
theorem dL_law_368 : decode cL_law 368 = .ok (.iload 4, 2) := by decide +kernel
theorem dL_law_370 : decode cL_law 370 = .ok (.iconst 4, 1) := by decide +kernel
theorem dL_law_371 : decode cL_law 371 = .ok (.iadd, 1) := by decide +kernel
theorem dL_law_372 : decode cL_law 372 = .ok (.iaload, 1) := by decide +kernel
theorem dL_law_373 : decode cL_law 373 = .ok (.aload_n 0, 1) := by decide +kernel
theorem dL_law_374 : decode cL_law 374 = .ok (.iload 4, 2) := by decide +kernel
theorem dL_law_376 : decode cL_law 376 = .ok (.iconst 5, 1) := by decide +kernel
theorem dL_law_377 : decode cL_law 377 = .ok (.iadd, 1) := by decide +kernel
theorem dL_law_378 : decode cL_law 378 = .ok (.iaload, 1) := by decide +kernel
theorem dL_law_379 : decode cL_law 379 = .ok (.aload_n 3, 1) := by decide +kernel
theorem dL_law_380 : decode cL_law 380 = .ok (.invokestatic 95, 3) := by decide +kernel
theorem dL_law_383 : decode cL_law 383 = .ok (.istore 5, 2) := by decide +kernel
theorem dL_law_385 : decode cL_law 385 = .ok (.aload_n 2, 1) := by decide +kernel
theorem dL_law_386 : decode cL_law 386 = .ok (.aload_n 0, 1) := by decide +kernel
theorem dL_law_387 : decode cL_law 387 = .ok (.iload 4, 2) := by decide +kernel
theorem dL_law_389 : decode cL_law 389 = .ok (.iconst 1, 1) := by decide +kernel
theorem dL_law_390 : decode cL_law 390 = .ok (.iadd, 1) := by decide +kernel
theorem dL_law_391 : decode cL_law 391 = .ok (.iaload, 1) := by decide +kernel
theorem dL_law_392 : decode cL_law 392 = .ok (.aload_n 0, 1) := by decide +kernel
theorem dL_law_393 : decode cL_law 393 = .ok (.iload 4, 2) := by decide +kernel
theorem dL_law_395 : decode cL_law 395 = .ok (.iconst 2, 1) := by decide +kernel
theorem dL_law_396 : decode cL_law 396 = .ok (.iadd, 1) := by decide +kernel
theorem dL_law_397 : decode cL_law 397 = .ok (.iaload, 1) := by decide +kernel
theorem dL_law_398 : decode cL_law 398 = .ok (.aload_n 0, 1) := by decide +kernel
theorem dL_law_399 : decode cL_law 399 = .ok (.iload 4, 2) := by decide +kernel
theorem dL_law_401 : decode cL_law 401 = .ok (.iconst 3, 1) := by decide +kernel
theorem dL_law_402 : decode cL_law 402 = .ok (.iadd, 1) := by decide +kernel
theorem dL_law_403 : decode cL_law 403 = .ok (.iaload, 1) := by decide +kernel
theorem dL_law_404 : decode cL_law 404 = .ok (.aload_n 0, 1) := by decide +kernel
theorem dL_law_405 : decode cL_law 405 = .ok (.iload 4, 2) := by decide +kernel
theorem dL_law_407 : decode cL_law 407 = .ok (.iconst 4, 1) := by decide +kernel
theorem dL_law_408 : decode cL_law 408 = .ok (.iadd, 1) := by decide +kernel
theorem dL_law_409 : decode cL_law 409 = .ok (.iaload, 1) := by decide +kernel
theorem dL_law_410 : decode cL_law 410 = .ok (.aload_n 0, 1) := by decide +kernel
theorem dL_law_411 : decode cL_law 411 = .ok (.iload 4, 2) := by decide +kernel
theorem dL_law_413 : decode cL_law 413 = .ok (.iconst 5, 1) := by decide +kernel
theorem dL_law_414 : decode cL_law 414 = .ok (.iadd, 1) := by decide +kernel
theorem dL_law_415 : decode cL_law 415 = .ok (.iaload, 1) := by decide +kernel
theorem dL_law_416 : decode cL_law 416 = .ok (.invokevirtual 98, 3) := by decide +kernel
theorem dL_law_419 : decode cL_law 419 = .ok (.istore 6, 2) := by decide +kernel
theorem dL_law_421 : decode cL_law 421 = .ok (.aload_n 2, 1) := by decide +kernel
theorem dL_law_422 : decode cL_law 422 = .ok (.invokevirtual 84, 3) := by decide +kernel
theorem dL_law_425 : decode cL_law 425 = .ok (.iload 5, 2) := by decide +kernel
theorem dL_law_427 : decode cL_law 427 = .ok (.if_icmp .eq 5, 3) := by decide +kernel
theorem dL_law_430 : decode cL_law 430 = .ok (.iconst 0, 1) := by decide +kernel
theorem dL_law_431 : decode cL_law 431 = .ok (.ireturn, 1) := by decide +kernel
theorem dL_law_432 : decode cL_law 432 = .ok (.iload 5, 2) := by decide +kernel
theorem dL_law_434 : decode cL_law 434 = .ok (.ifCond .ne 15, 3) := by decide +kernel
theorem dL_law_437 : decode cL_law 437 = .ok (.aload_n 3, 1) := by decide +kernel
theorem dL_law_438 : decode cL_law 438 = .ok (.iconst 0, 1) := by decide +kernel
theorem dL_law_439 : decode cL_law 439 = .ok (.laload, 1) := by decide +kernel
theorem dL_law_440 : decode cL_law 440 = .ok (.iload 6, 2) := by decide +kernel
theorem dL_law_442 : decode cL_law 442 = .ok (.i2l, 1) := by decide +kernel
theorem dL_law_443 : decode cL_law 443 = .ok (.lcmp, 1) := by decide +kernel
theorem dL_law_444 : decode cL_law 444 = .ok (.ifCond .eq 5, 3) := by decide +kernel
theorem dL_law_447 : decode cL_law 447 = .ok (.iconst 0, 1) := by decide +kernel
theorem dL_law_448 : decode cL_law 448 = .ok (.ireturn, 1) := by decide +kernel
theorem dL_law_449 : decode cL_law 449 = .ok (.goto 972, 3) := by decide +kernel
theorem dL_law_452 : decode cL_law 452 = .ok (.aload_n 1, 1) := by decide +kernel
theorem dL_law_453 : decode cL_law 453 = .ok (.aload_n 0, 1) := by decide +kernel
theorem dL_law_454 : decode cL_law 454 = .ok (.iload 4, 2) := by decide +kernel
theorem dL_law_456 : decode cL_law 456 = .ok (.iconst 1, 1) := by decide +kernel
theorem dL_law_457 : decode cL_law 457 = .ok (.iadd, 1) := by decide +kernel
theorem dL_law_458 : decode cL_law 458 = .ok (.iaload, 1) := by decide +kernel
theorem dL_law_459 : decode cL_law 459 = .ok (.aload_n 0, 1) := by decide +kernel
theorem dL_law_460 : decode cL_law 460 = .ok (.iload 4, 2) := by decide +kernel
theorem dL_law_462 : decode cL_law 462 = .ok (.iconst 2, 1) := by decide +kernel
theorem dL_law_463 : decode cL_law 463 = .ok (.iadd, 1) := by decide +kernel
theorem dL_law_464 : decode cL_law 464 = .ok (.iaload, 1) := by decide +kernel
theorem dL_law_465 : decode cL_law 465 = .ok (.aload_n 0, 1) := by decide +kernel
theorem dL_law_466 : decode cL_law 466 = .ok (.iload 4, 2) := by decide +kernel
theorem dL_law_468 : decode cL_law 468 = .ok (.iconst 3, 1) := by decide +kernel
theorem dL_law_469 : decode cL_law 469 = .ok (.iadd, 1) := by decide +kernel
theorem dL_law_470 : decode cL_law 470 = .ok (.iaload, 1) := by decide +kernel
theorem dL_law_471 : decode cL_law 471 = .ok (.aload_n 0, 1) := by decide +kernel
theorem dL_law_472 : decode cL_law 472 = .ok (.iload 4, 2) := by decide +kernel
theorem dL_law_474 : decode cL_law 474 = .ok (.iconst 4, 1) := by decide +kernel
theorem dL_law_475 : decode cL_law 475 = .ok (.iadd, 1) := by decide +kernel
theorem dL_law_476 : decode cL_law 476 = .ok (.iaload, 1) := by decide +kernel
theorem dL_law_477 : decode cL_law 477 = .ok (.aload_n 0, 1) := by decide +kernel
theorem dL_law_478 : decode cL_law 478 = .ok (.iload 4, 2) := by decide +kernel
theorem dL_law_480 : decode cL_law 480 = .ok (.iconst 5, 1) := by decide +kernel
theorem dL_law_481 : decode cL_law 481 = .ok (.iadd, 1) := by decide +kernel
theorem dL_law_482 : decode cL_law 482 = .ok (.iaload, 1) := by decide +kernel
theorem dL_law_483 : decode cL_law 483 = .ok (.aload_n 3, 1) := by decide +kernel
theorem dL_law_484 : decode cL_law 484 = .ok (.invokestatic 99, 3) := by decide +kernel
theorem dL_law_487 : decode cL_law 487 = .ok (.istore 5, 2) := by decide +kernel
theorem dL_law_489 : decode cL_law 489 = .ok (.aload_n 2, 1) := by decide +kernel
theorem dL_law_490 : decode cL_law 490 = .ok (.aload_n 0, 1) := by decide +kernel
theorem dL_law_491 : decode cL_law 491 = .ok (.iload 4, 2) := by decide +kernel
theorem dL_law_493 : decode cL_law 493 = .ok (.iconst 1, 1) := by decide +kernel
theorem dL_law_494 : decode cL_law 494 = .ok (.iadd, 1) := by decide +kernel
theorem dL_law_495 : decode cL_law 495 = .ok (.iaload, 1) := by decide +kernel
theorem dL_law_496 : decode cL_law 496 = .ok (.aload_n 0, 1) := by decide +kernel
theorem dL_law_497 : decode cL_law 497 = .ok (.iload 4, 2) := by decide +kernel
theorem dL_law_499 : decode cL_law 499 = .ok (.iconst 2, 1) := by decide +kernel
theorem dL_law_500 : decode cL_law 500 = .ok (.iadd, 1) := by decide +kernel
theorem dL_law_501 : decode cL_law 501 = .ok (.iaload, 1) := by decide +kernel
theorem dL_law_502 : decode cL_law 502 = .ok (.aload_n 0, 1) := by decide +kernel
theorem dL_law_503 : decode cL_law 503 = .ok (.iload 4, 2) := by decide +kernel
theorem dL_law_505 : decode cL_law 505 = .ok (.iconst 3, 1) := by decide +kernel
theorem dL_law_506 : decode cL_law 506 = .ok (.iadd, 1) := by decide +kernel
theorem dL_law_507 : decode cL_law 507 = .ok (.iaload, 1) := by decide +kernel
theorem dL_law_508 : decode cL_law 508 = .ok (.aload_n 0, 1) := by decide +kernel
theorem dL_law_509 : decode cL_law 509 = .ok (.iload 4, 2) := by decide +kernel
theorem dL_law_511 : decode cL_law 511 = .ok (.iconst 4, 1) := by decide +kernel
theorem dL_law_512 : decode cL_law 512 = .ok (.iadd, 1) := by decide +kernel
theorem dL_law_513 : decode cL_law 513 = .ok (.iaload, 1) := by decide +kernel
theorem dL_law_514 : decode cL_law 514 = .ok (.aload_n 0, 1) := by decide +kernel
theorem dL_law_515 : decode cL_law 515 = .ok (.iload 4, 2) := by decide +kernel
theorem dL_law_517 : decode cL_law 517 = .ok (.iconst 5, 1) := by decide +kernel
theorem dL_law_518 : decode cL_law 518 = .ok (.iadd, 1) := by decide +kernel
theorem dL_law_519 : decode cL_law 519 = .ok (.iaload, 1) := by decide +kernel
theorem dL_law_520 : decode cL_law 520 = .ok (.invokevirtual 101, 3) := by decide +kernel
theorem dL_law_523 : decode cL_law 523 = .ok (.istore 6, 2) := by decide +kernel
theorem dL_law_525 : decode cL_law 525 = .ok (.aload_n 2, 1) := by decide +kernel
theorem dL_law_526 : decode cL_law 526 = .ok (.invokevirtual 84, 3) := by decide +kernel
theorem dL_law_529 : decode cL_law 529 = .ok (.iload 5, 2) := by decide +kernel
theorem dL_law_531 : decode cL_law 531 = .ok (.if_icmp .eq 5, 3) := by decide +kernel
theorem dL_law_534 : decode cL_law 534 = .ok (.iconst 0, 1) := by decide +kernel
theorem dL_law_535 : decode cL_law 535 = .ok (.ireturn, 1) := by decide +kernel
theorem dL_law_536 : decode cL_law 536 = .ok (.iload 5, 2) := by decide +kernel
theorem dL_law_538 : decode cL_law 538 = .ok (.ifCond .ne 15, 3) := by decide +kernel
theorem dL_law_541 : decode cL_law 541 = .ok (.aload_n 3, 1) := by decide +kernel
theorem dL_law_542 : decode cL_law 542 = .ok (.iconst 0, 1) := by decide +kernel
theorem dL_law_543 : decode cL_law 543 = .ok (.laload, 1) := by decide +kernel
theorem dL_law_544 : decode cL_law 544 = .ok (.iload 6, 2) := by decide +kernel
theorem dL_law_546 : decode cL_law 546 = .ok (.i2l, 1) := by decide +kernel
theorem dL_law_547 : decode cL_law 547 = .ok (.lcmp, 1) := by decide +kernel
theorem dL_law_548 : decode cL_law 548 = .ok (.ifCond .eq 5, 3) := by decide +kernel
theorem dL_law_551 : decode cL_law 551 = .ok (.iconst 0, 1) := by decide +kernel
theorem dL_law_552 : decode cL_law 552 = .ok (.ireturn, 1) := by decide +kernel
theorem dL_law_553 : decode cL_law 553 = .ok (.goto 868, 3) := by decide +kernel
theorem dL_law_556 : decode cL_law 556 = .ok (.aload_n 1, 1) := by decide +kernel
theorem dL_law_557 : decode cL_law 557 = .ok (.aload_n 0, 1) := by decide +kernel
theorem dL_law_558 : decode cL_law 558 = .ok (.iload 4, 2) := by decide +kernel
theorem dL_law_560 : decode cL_law 560 = .ok (.iconst 1, 1) := by decide +kernel
theorem dL_law_561 : decode cL_law 561 = .ok (.iadd, 1) := by decide +kernel
theorem dL_law_562 : decode cL_law 562 = .ok (.iaload, 1) := by decide +kernel
theorem dL_law_563 : decode cL_law 563 = .ok (.aload_n 3, 1) := by decide +kernel
theorem dL_law_564 : decode cL_law 564 = .ok (.invokestatic 102, 3) := by decide +kernel
theorem dL_law_567 : decode cL_law 567 = .ok (.istore 5, 2) := by decide +kernel
theorem dL_law_569 : decode cL_law 569 = .ok (.aload_n 2, 1) := by decide +kernel
theorem dL_law_570 : decode cL_law 570 = .ok (.aload_n 0, 1) := by decide +kernel
theorem dL_law_571 : decode cL_law 571 = .ok (.iload 4, 2) := by decide +kernel
theorem dL_law_573 : decode cL_law 573 = .ok (.iconst 1, 1) := by decide +kernel
theorem dL_law_574 : decode cL_law 574 = .ok (.iadd, 1) := by decide +kernel
theorem dL_law_575 : decode cL_law 575 = .ok (.iaload, 1) := by decide +kernel
theorem dL_law_576 : decode cL_law 576 = .ok (.invokevirtual 104, 3) := by decide +kernel
theorem dL_law_579 : decode cL_law 579 = .ok (.istore 6, 2) := by decide +kernel
theorem dL_law_581 : decode cL_law 581 = .ok (.aload_n 2, 1) := by decide +kernel
theorem dL_law_582 : decode cL_law 582 = .ok (.invokevirtual 84, 3) := by decide +kernel
theorem dL_law_585 : decode cL_law 585 = .ok (.iload 5, 2) := by decide +kernel
theorem dL_law_587 : decode cL_law 587 = .ok (.if_icmp .eq 5, 3) := by decide +kernel
theorem dL_law_590 : decode cL_law 590 = .ok (.iconst 0, 1) := by decide +kernel
theorem dL_law_591 : decode cL_law 591 = .ok (.ireturn, 1) := by decide +kernel
theorem dL_law_592 : decode cL_law 592 = .ok (.iload 5, 2) := by decide +kernel
theorem dL_law_594 : decode cL_law 594 = .ok (.ifCond .ne 15, 3) := by decide +kernel
theorem dL_law_597 : decode cL_law 597 = .ok (.aload_n 3, 1) := by decide +kernel
theorem dL_law_598 : decode cL_law 598 = .ok (.iconst 0, 1) := by decide +kernel
theorem dL_law_599 : decode cL_law 599 = .ok (.laload, 1) := by decide +kernel
theorem dL_law_600 : decode cL_law 600 = .ok (.iload 6, 2) := by decide +kernel
theorem dL_law_602 : decode cL_law 602 = .ok (.i2l, 1) := by decide +kernel
theorem dL_law_603 : decode cL_law 603 = .ok (.lcmp, 1) := by decide +kernel
theorem dL_law_604 : decode cL_law 604 = .ok (.ifCond .eq 5, 3) := by decide +kernel
theorem dL_law_607 : decode cL_law 607 = .ok (.iconst 0, 1) := by decide +kernel
theorem dL_law_608 : decode cL_law 608 = .ok (.ireturn, 1) := by decide +kernel
theorem dL_law_609 : decode cL_law 609 = .ok (.goto 812, 3) := by decide +kernel
theorem dL_law_612 : decode cL_law 612 = .ok (.aload_n 1, 1) := by decide +kernel
theorem dL_law_613 : decode cL_law 613 = .ok (.aload_n 3, 1) := by decide +kernel
theorem dL_law_614 : decode cL_law 614 = .ok (.invokestatic 105, 3) := by decide +kernel
theorem dL_law_617 : decode cL_law 617 = .ok (.istore 5, 2) := by decide +kernel
theorem dL_law_619 : decode cL_law 619 = .ok (.aload_n 2, 1) := by decide +kernel
theorem dL_law_620 : decode cL_law 620 = .ok (.invokevirtual 108, 3) := by decide +kernel
theorem dL_law_623 : decode cL_law 623 = .ok (.istore 6, 2) := by decide +kernel
theorem dL_law_625 : decode cL_law 625 = .ok (.aload_n 2, 1) := by decide +kernel
theorem dL_law_626 : decode cL_law 626 = .ok (.invokevirtual 84, 3) := by decide +kernel
theorem dL_law_629 : decode cL_law 629 = .ok (.iload 5, 2) := by decide +kernel
theorem dL_law_631 : decode cL_law 631 = .ok (.if_icmp .eq 5, 3) := by decide +kernel
theorem dL_law_634 : decode cL_law 634 = .ok (.iconst 0, 1) := by decide +kernel
theorem dL_law_635 : decode cL_law 635 = .ok (.ireturn, 1) := by decide +kernel
theorem dL_law_636 : decode cL_law 636 = .ok (.iload 5, 2) := by decide +kernel
theorem dL_law_638 : decode cL_law 638 = .ok (.ifCond .ne 15, 3) := by decide +kernel
theorem dL_law_641 : decode cL_law 641 = .ok (.aload_n 3, 1) := by decide +kernel
theorem dL_law_642 : decode cL_law 642 = .ok (.iconst 0, 1) := by decide +kernel
theorem dL_law_643 : decode cL_law 643 = .ok (.laload, 1) := by decide +kernel
theorem dL_law_644 : decode cL_law 644 = .ok (.iload 6, 2) := by decide +kernel
theorem dL_law_646 : decode cL_law 646 = .ok (.i2l, 1) := by decide +kernel
theorem dL_law_647 : decode cL_law 647 = .ok (.lcmp, 1) := by decide +kernel
theorem dL_law_648 : decode cL_law 648 = .ok (.ifCond .eq 5, 3) := by decide +kernel
theorem dL_law_651 : decode cL_law 651 = .ok (.iconst 0, 1) := by decide +kernel
theorem dL_law_652 : decode cL_law 652 = .ok (.ireturn, 1) := by decide +kernel
theorem dL_law_653 : decode cL_law 653 = .ok (.goto 768, 3) := by decide +kernel
theorem dL_law_656 : decode cL_law 656 = .ok (.aload_n 1, 1) := by decide +kernel
theorem dL_law_657 : decode cL_law 657 = .ok (.aload_n 0, 1) := by decide +kernel
theorem dL_law_658 : decode cL_law 658 = .ok (.iload 4, 2) := by decide +kernel
theorem dL_law_660 : decode cL_law 660 = .ok (.iconst 1, 1) := by decide +kernel
theorem dL_law_661 : decode cL_law 661 = .ok (.iadd, 1) := by decide +kernel
theorem dL_law_662 : decode cL_law 662 = .ok (.iaload, 1) := by decide +kernel
theorem dL_law_663 : decode cL_law 663 = .ok (.aload_n 0, 1) := by decide +kernel
theorem dL_law_664 : decode cL_law 664 = .ok (.iload 4, 2) := by decide +kernel
theorem dL_law_666 : decode cL_law 666 = .ok (.iconst 2, 1) := by decide +kernel
theorem dL_law_667 : decode cL_law 667 = .ok (.iadd, 1) := by decide +kernel
theorem dL_law_668 : decode cL_law 668 = .ok (.iaload, 1) := by decide +kernel
theorem dL_law_669 : decode cL_law 669 = .ok (.aload_n 3, 1) := by decide +kernel
theorem dL_law_670 : decode cL_law 670 = .ok (.invokestatic 109, 3) := by decide +kernel
theorem dL_law_673 : decode cL_law 673 = .ok (.istore 5, 2) := by decide +kernel
theorem dL_law_675 : decode cL_law 675 = .ok (.aload_n 2, 1) := by decide +kernel
theorem dL_law_676 : decode cL_law 676 = .ok (.aload_n 0, 1) := by decide +kernel
theorem dL_law_677 : decode cL_law 677 = .ok (.iload 4, 2) := by decide +kernel
theorem dL_law_679 : decode cL_law 679 = .ok (.iconst 1, 1) := by decide +kernel
theorem dL_law_680 : decode cL_law 680 = .ok (.iadd, 1) := by decide +kernel
theorem dL_law_681 : decode cL_law 681 = .ok (.iaload, 1) := by decide +kernel
theorem dL_law_682 : decode cL_law 682 = .ok (.aload_n 0, 1) := by decide +kernel
theorem dL_law_683 : decode cL_law 683 = .ok (.iload 4, 2) := by decide +kernel
theorem dL_law_685 : decode cL_law 685 = .ok (.iconst 2, 1) := by decide +kernel
theorem dL_law_686 : decode cL_law 686 = .ok (.iadd, 1) := by decide +kernel
theorem dL_law_687 : decode cL_law 687 = .ok (.iaload, 1) := by decide +kernel
theorem dL_law_688 : decode cL_law 688 = .ok (.invokevirtual 111, 3) := by decide +kernel
theorem dL_law_691 : decode cL_law 691 = .ok (.istore 6, 2) := by decide +kernel
theorem dL_law_693 : decode cL_law 693 = .ok (.aload_n 2, 1) := by decide +kernel
theorem dL_law_694 : decode cL_law 694 = .ok (.invokevirtual 84, 3) := by decide +kernel
theorem dL_law_697 : decode cL_law 697 = .ok (.iload 5, 2) := by decide +kernel
theorem dL_law_699 : decode cL_law 699 = .ok (.if_icmp .eq 5, 3) := by decide +kernel
theorem dL_law_702 : decode cL_law 702 = .ok (.iconst 0, 1) := by decide +kernel
theorem dL_law_703 : decode cL_law 703 = .ok (.ireturn, 1) := by decide +kernel
theorem dL_law_704 : decode cL_law 704 = .ok (.iload 5, 2) := by decide +kernel
theorem dL_law_706 : decode cL_law 706 = .ok (.ifCond .ne 15, 3) := by decide +kernel
theorem dL_law_709 : decode cL_law 709 = .ok (.aload_n 3, 1) := by decide +kernel
theorem dL_law_710 : decode cL_law 710 = .ok (.iconst 0, 1) := by decide +kernel
theorem dL_law_711 : decode cL_law 711 = .ok (.laload, 1) := by decide +kernel
theorem dL_law_712 : decode cL_law 712 = .ok (.iload 6, 2) := by decide +kernel
theorem dL_law_714 : decode cL_law 714 = .ok (.i2l, 1) := by decide +kernel
theorem dL_law_715 : decode cL_law 715 = .ok (.lcmp, 1) := by decide +kernel
theorem dL_law_716 : decode cL_law 716 = .ok (.ifCond .eq 5, 3) := by decide +kernel
theorem dL_law_719 : decode cL_law 719 = .ok (.iconst 0, 1) := by decide +kernel
theorem dL_law_720 : decode cL_law 720 = .ok (.ireturn, 1) := by decide +kernel
theorem dL_law_721 : decode cL_law 721 = .ok (.goto 700, 3) := by decide +kernel
theorem dL_law_724 : decode cL_law 724 = .ok (.aload_n 1, 1) := by decide +kernel
theorem dL_law_725 : decode cL_law 725 = .ok (.aload_n 0, 1) := by decide +kernel
theorem dL_law_726 : decode cL_law 726 = .ok (.iload 4, 2) := by decide +kernel
theorem dL_law_728 : decode cL_law 728 = .ok (.iconst 1, 1) := by decide +kernel
theorem dL_law_729 : decode cL_law 729 = .ok (.iadd, 1) := by decide +kernel
theorem dL_law_730 : decode cL_law 730 = .ok (.iaload, 1) := by decide +kernel
theorem dL_law_731 : decode cL_law 731 = .ok (.aload_n 0, 1) := by decide +kernel
theorem dL_law_732 : decode cL_law 732 = .ok (.iload 4, 2) := by decide +kernel
theorem dL_law_734 : decode cL_law 734 = .ok (.iconst 2, 1) := by decide +kernel
theorem dL_law_735 : decode cL_law 735 = .ok (.iadd, 1) := by decide +kernel
theorem dL_law_736 : decode cL_law 736 = .ok (.iaload, 1) := by decide +kernel
theorem dL_law_737 : decode cL_law 737 = .ok (.aload_n 0, 1) := by decide +kernel
theorem dL_law_738 : decode cL_law 738 = .ok (.iload 4, 2) := by decide +kernel
theorem dL_law_740 : decode cL_law 740 = .ok (.iconst 3, 1) := by decide +kernel
theorem dL_law_741 : decode cL_law 741 = .ok (.iadd, 1) := by decide +kernel
theorem dL_law_742 : decode cL_law 742 = .ok (.iaload, 1) := by decide +kernel
theorem dL_law_743 : decode cL_law 743 = .ok (.aload_n 3, 1) := by decide +kernel
theorem dL_law_744 : decode cL_law 744 = .ok (.invokestatic 112, 3) := by decide +kernel
theorem dL_law_747 : decode cL_law 747 = .ok (.istore 5, 2) := by decide +kernel
theorem dL_law_749 : decode cL_law 749 = .ok (.aload_n 2, 1) := by decide +kernel
theorem dL_law_750 : decode cL_law 750 = .ok (.aload_n 0, 1) := by decide +kernel
theorem dL_law_751 : decode cL_law 751 = .ok (.iload 4, 2) := by decide +kernel
theorem dL_law_753 : decode cL_law 753 = .ok (.iconst 1, 1) := by decide +kernel
theorem dL_law_754 : decode cL_law 754 = .ok (.iadd, 1) := by decide +kernel
theorem dL_law_755 : decode cL_law 755 = .ok (.iaload, 1) := by decide +kernel
theorem dL_law_756 : decode cL_law 756 = .ok (.aload_n 0, 1) := by decide +kernel
theorem dL_law_757 : decode cL_law 757 = .ok (.iload 4, 2) := by decide +kernel
theorem dL_law_759 : decode cL_law 759 = .ok (.iconst 2, 1) := by decide +kernel
theorem dL_law_760 : decode cL_law 760 = .ok (.iadd, 1) := by decide +kernel
theorem dL_law_761 : decode cL_law 761 = .ok (.iaload, 1) := by decide +kernel
theorem dL_law_762 : decode cL_law 762 = .ok (.aload_n 0, 1) := by decide +kernel
theorem dL_law_763 : decode cL_law 763 = .ok (.iload 4, 2) := by decide +kernel
theorem dL_law_765 : decode cL_law 765 = .ok (.iconst 3, 1) := by decide +kernel
theorem dL_law_766 : decode cL_law 766 = .ok (.iadd, 1) := by decide +kernel
theorem dL_law_767 : decode cL_law 767 = .ok (.iaload, 1) := by decide +kernel
theorem dL_law_768 : decode cL_law 768 = .ok (.invokevirtual 115, 3) := by decide +kernel
theorem dL_law_771 : decode cL_law 771 = .ok (.istore 6, 2) := by decide +kernel
theorem dL_law_773 : decode cL_law 773 = .ok (.aload_n 2, 1) := by decide +kernel
theorem dL_law_774 : decode cL_law 774 = .ok (.invokevirtual 84, 3) := by decide +kernel
theorem dL_law_777 : decode cL_law 777 = .ok (.iload 5, 2) := by decide +kernel
theorem dL_law_779 : decode cL_law 779 = .ok (.if_icmp .eq 5, 3) := by decide +kernel
theorem dL_law_782 : decode cL_law 782 = .ok (.iconst 0, 1) := by decide +kernel
theorem dL_law_783 : decode cL_law 783 = .ok (.ireturn, 1) := by decide +kernel
theorem dL_law_784 : decode cL_law 784 = .ok (.iload 5, 2) := by decide +kernel
theorem dL_law_786 : decode cL_law 786 = .ok (.ifCond .ne 15, 3) := by decide +kernel
theorem dL_law_789 : decode cL_law 789 = .ok (.aload_n 3, 1) := by decide +kernel
theorem dL_law_790 : decode cL_law 790 = .ok (.iconst 0, 1) := by decide +kernel
theorem dL_law_791 : decode cL_law 791 = .ok (.laload, 1) := by decide +kernel
theorem dL_law_792 : decode cL_law 792 = .ok (.iload 6, 2) := by decide +kernel
theorem dL_law_794 : decode cL_law 794 = .ok (.i2l, 1) := by decide +kernel
theorem dL_law_795 : decode cL_law 795 = .ok (.lcmp, 1) := by decide +kernel
theorem dL_law_796 : decode cL_law 796 = .ok (.ifCond .eq 5, 3) := by decide +kernel
theorem dL_law_799 : decode cL_law 799 = .ok (.iconst 0, 1) := by decide +kernel
theorem dL_law_800 : decode cL_law 800 = .ok (.ireturn, 1) := by decide +kernel
theorem dL_law_801 : decode cL_law 801 = .ok (.goto 620, 3) := by decide +kernel
theorem dL_law_804 : decode cL_law 804 = .ok (.aload_n 1, 1) := by decide +kernel
theorem dL_law_805 : decode cL_law 805 = .ok (.aload_n 0, 1) := by decide +kernel
theorem dL_law_806 : decode cL_law 806 = .ok (.iload 4, 2) := by decide +kernel
theorem dL_law_808 : decode cL_law 808 = .ok (.iconst 1, 1) := by decide +kernel
theorem dL_law_809 : decode cL_law 809 = .ok (.iadd, 1) := by decide +kernel
theorem dL_law_810 : decode cL_law 810 = .ok (.iaload, 1) := by decide +kernel
theorem dL_law_811 : decode cL_law 811 = .ok (.aload_n 0, 1) := by decide +kernel
theorem dL_law_812 : decode cL_law 812 = .ok (.iload 4, 2) := by decide +kernel
theorem dL_law_814 : decode cL_law 814 = .ok (.iconst 2, 1) := by decide +kernel
theorem dL_law_815 : decode cL_law 815 = .ok (.iadd, 1) := by decide +kernel
theorem dL_law_816 : decode cL_law 816 = .ok (.iaload, 1) := by decide +kernel
theorem dL_law_817 : decode cL_law 817 = .ok (.aload_n 0, 1) := by decide +kernel
theorem dL_law_818 : decode cL_law 818 = .ok (.iload 4, 2) := by decide +kernel
theorem dL_law_820 : decode cL_law 820 = .ok (.iconst 3, 1) := by decide +kernel
theorem dL_law_821 : decode cL_law 821 = .ok (.iadd, 1) := by decide +kernel
theorem dL_law_822 : decode cL_law 822 = .ok (.iaload, 1) := by decide +kernel
theorem dL_law_823 : decode cL_law 823 = .ok (.aload_n 3, 1) := by decide +kernel
theorem dL_law_824 : decode cL_law 824 = .ok (.invokestatic 116, 3) := by decide +kernel
theorem dL_law_827 : decode cL_law 827 = .ok (.istore 5, 2) := by decide +kernel
theorem dL_law_829 : decode cL_law 829 = .ok (.aload_n 2, 1) := by decide +kernel
theorem dL_law_830 : decode cL_law 830 = .ok (.aload_n 0, 1) := by decide +kernel
theorem dL_law_831 : decode cL_law 831 = .ok (.iload 4, 2) := by decide +kernel
theorem dL_law_833 : decode cL_law 833 = .ok (.iconst 1, 1) := by decide +kernel
theorem dL_law_834 : decode cL_law 834 = .ok (.iadd, 1) := by decide +kernel
theorem dL_law_835 : decode cL_law 835 = .ok (.iaload, 1) := by decide +kernel
theorem dL_law_836 : decode cL_law 836 = .ok (.aload_n 0, 1) := by decide +kernel
theorem dL_law_837 : decode cL_law 837 = .ok (.iload 4, 2) := by decide +kernel
theorem dL_law_839 : decode cL_law 839 = .ok (.iconst 2, 1) := by decide +kernel
theorem dL_law_840 : decode cL_law 840 = .ok (.iadd, 1) := by decide +kernel
theorem dL_law_841 : decode cL_law 841 = .ok (.iaload, 1) := by decide +kernel
theorem dL_law_842 : decode cL_law 842 = .ok (.aload_n 0, 1) := by decide +kernel
theorem dL_law_843 : decode cL_law 843 = .ok (.iload 4, 2) := by decide +kernel
theorem dL_law_845 : decode cL_law 845 = .ok (.iconst 3, 1) := by decide +kernel
theorem dL_law_846 : decode cL_law 846 = .ok (.iadd, 1) := by decide +kernel
theorem dL_law_847 : decode cL_law 847 = .ok (.iaload, 1) := by decide +kernel
theorem dL_law_848 : decode cL_law 848 = .ok (.invokevirtual 118, 3) := by decide +kernel
theorem dL_law_851 : decode cL_law 851 = .ok (.istore 6, 2) := by decide +kernel
theorem dL_law_853 : decode cL_law 853 = .ok (.aload_n 2, 1) := by decide +kernel
theorem dL_law_854 : decode cL_law 854 = .ok (.invokevirtual 84, 3) := by decide +kernel
theorem dL_law_857 : decode cL_law 857 = .ok (.iload 5, 2) := by decide +kernel
theorem dL_law_859 : decode cL_law 859 = .ok (.if_icmp .eq 5, 3) := by decide +kernel
theorem dL_law_862 : decode cL_law 862 = .ok (.iconst 0, 1) := by decide +kernel
theorem dL_law_863 : decode cL_law 863 = .ok (.ireturn, 1) := by decide +kernel
theorem dL_law_864 : decode cL_law 864 = .ok (.iload 5, 2) := by decide +kernel
theorem dL_law_866 : decode cL_law 866 = .ok (.ifCond .ne 15, 3) := by decide +kernel
theorem dL_law_869 : decode cL_law 869 = .ok (.aload_n 3, 1) := by decide +kernel
theorem dL_law_870 : decode cL_law 870 = .ok (.iconst 0, 1) := by decide +kernel
theorem dL_law_871 : decode cL_law 871 = .ok (.laload, 1) := by decide +kernel
theorem dL_law_872 : decode cL_law 872 = .ok (.iload 6, 2) := by decide +kernel
theorem dL_law_874 : decode cL_law 874 = .ok (.i2l, 1) := by decide +kernel
theorem dL_law_875 : decode cL_law 875 = .ok (.lcmp, 1) := by decide +kernel
theorem dL_law_876 : decode cL_law 876 = .ok (.ifCond .eq 5, 3) := by decide +kernel
theorem dL_law_879 : decode cL_law 879 = .ok (.iconst 0, 1) := by decide +kernel
theorem dL_law_880 : decode cL_law 880 = .ok (.ireturn, 1) := by decide +kernel
theorem dL_law_881 : decode cL_law 881 = .ok (.goto 540, 3) := by decide +kernel
theorem dL_law_884 : decode cL_law 884 = .ok (.aload_n 1, 1) := by decide +kernel
theorem dL_law_885 : decode cL_law 885 = .ok (.aload_n 0, 1) := by decide +kernel
theorem dL_law_886 : decode cL_law 886 = .ok (.iload 4, 2) := by decide +kernel
theorem dL_law_888 : decode cL_law 888 = .ok (.iconst 1, 1) := by decide +kernel
theorem dL_law_889 : decode cL_law 889 = .ok (.iadd, 1) := by decide +kernel
theorem dL_law_890 : decode cL_law 890 = .ok (.iaload, 1) := by decide +kernel
theorem dL_law_891 : decode cL_law 891 = .ok (.aload_n 0, 1) := by decide +kernel
theorem dL_law_892 : decode cL_law 892 = .ok (.iload 4, 2) := by decide +kernel
theorem dL_law_894 : decode cL_law 894 = .ok (.iconst 2, 1) := by decide +kernel
theorem dL_law_895 : decode cL_law 895 = .ok (.iadd, 1) := by decide +kernel
theorem dL_law_896 : decode cL_law 896 = .ok (.iaload, 1) := by decide +kernel
theorem dL_law_897 : decode cL_law 897 = .ok (.aload_n 3, 1) := by decide +kernel
theorem dL_law_898 : decode cL_law 898 = .ok (.invokestatic 119, 3) := by decide +kernel
theorem dL_law_901 : decode cL_law 901 = .ok (.istore 5, 2) := by decide +kernel
theorem dL_law_903 : decode cL_law 903 = .ok (.aload_n 2, 1) := by decide +kernel
theorem dL_law_904 : decode cL_law 904 = .ok (.aload_n 0, 1) := by decide +kernel
theorem dL_law_905 : decode cL_law 905 = .ok (.iload 4, 2) := by decide +kernel
theorem dL_law_907 : decode cL_law 907 = .ok (.iconst 1, 1) := by decide +kernel
theorem dL_law_908 : decode cL_law 908 = .ok (.iadd, 1) := by decide +kernel
theorem dL_law_909 : decode cL_law 909 = .ok (.iaload, 1) := by decide +kernel
theorem dL_law_910 : decode cL_law 910 = .ok (.aload_n 0, 1) := by decide +kernel
theorem dL_law_911 : decode cL_law 911 = .ok (.iload 4, 2) := by decide +kernel
theorem dL_law_913 : decode cL_law 913 = .ok (.iconst 2, 1) := by decide +kernel
theorem dL_law_914 : decode cL_law 914 = .ok (.iadd, 1) := by decide +kernel
theorem dL_law_915 : decode cL_law 915 = .ok (.iaload, 1) := by decide +kernel
theorem dL_law_916 : decode cL_law 916 = .ok (.invokevirtual 121, 3) := by decide +kernel
theorem dL_law_919 : decode cL_law 919 = .ok (.istore 6, 2) := by decide +kernel
theorem dL_law_921 : decode cL_law 921 = .ok (.aload_n 2, 1) := by decide +kernel
theorem dL_law_922 : decode cL_law 922 = .ok (.invokevirtual 84, 3) := by decide +kernel
theorem dL_law_925 : decode cL_law 925 = .ok (.iload 5, 2) := by decide +kernel
theorem dL_law_927 : decode cL_law 927 = .ok (.if_icmp .eq 5, 3) := by decide +kernel
theorem dL_law_930 : decode cL_law 930 = .ok (.iconst 0, 1) := by decide +kernel
theorem dL_law_931 : decode cL_law 931 = .ok (.ireturn, 1) := by decide +kernel
theorem dL_law_932 : decode cL_law 932 = .ok (.iload 5, 2) := by decide +kernel
theorem dL_law_934 : decode cL_law 934 = .ok (.ifCond .ne 22, 3) := by decide +kernel
theorem dL_law_937 : decode cL_law 937 = .ok (.aload_n 3, 1) := by decide +kernel
theorem dL_law_938 : decode cL_law 938 = .ok (.iconst 0, 1) := by decide +kernel
theorem dL_law_939 : decode cL_law 939 = .ok (.laload, 1) := by decide +kernel
theorem dL_law_940 : decode cL_law 940 = .ok (.iload 6, 2) := by decide +kernel
theorem dL_law_942 : decode cL_law 942 = .ok (.ifCond .eq 7, 3) := by decide +kernel
theorem dL_law_945 : decode cL_law 945 = .ok (.lconst 1, 1) := by decide +kernel
theorem dL_law_946 : decode cL_law 946 = .ok (.goto 4, 3) := by decide +kernel
theorem dL_law_949 : decode cL_law 949 = .ok (.lconst 0, 1) := by decide +kernel
theorem dL_law_950 : decode cL_law 950 = .ok (.lcmp, 1) := by decide +kernel
theorem dL_law_951 : decode cL_law 951 = .ok (.ifCond .eq 5, 3) := by decide +kernel
theorem dL_law_954 : decode cL_law 954 = .ok (.iconst 0, 1) := by decide +kernel
theorem dL_law_955 : decode cL_law 955 = .ok (.ireturn, 1) := by decide +kernel
theorem dL_law_956 : decode cL_law 956 = .ok (.goto 465, 3) := by decide +kernel
theorem dL_law_959 : decode cL_law 959 = .ok (.aload_n 1, 1) := by decide +kernel
theorem dL_law_960 : decode cL_law 960 = .ok (.aload_n 0, 1) := by decide +kernel
theorem dL_law_961 : decode cL_law 961 = .ok (.iload 4, 2) := by decide +kernel
theorem dL_law_963 : decode cL_law 963 = .ok (.iconst 1, 1) := by decide +kernel
theorem dL_law_964 : decode cL_law 964 = .ok (.iadd, 1) := by decide +kernel
theorem dL_law_965 : decode cL_law 965 = .ok (.iaload, 1) := by decide +kernel
theorem dL_law_966 : decode cL_law 966 = .ok (.aload_n 0, 1) := by decide +kernel
theorem dL_law_967 : decode cL_law 967 = .ok (.iload 4, 2) := by decide +kernel
theorem dL_law_969 : decode cL_law 969 = .ok (.iconst 2, 1) := by decide +kernel
theorem dL_law_970 : decode cL_law 970 = .ok (.iadd, 1) := by decide +kernel
theorem dL_law_971 : decode cL_law 971 = .ok (.iaload, 1) := by decide +kernel
theorem dL_law_972 : decode cL_law 972 = .ok (.ifCond .eq 7, 3) := by decide +kernel
theorem dL_law_975 : decode cL_law 975 = .ok (.iconst 1, 1) := by decide +kernel
theorem dL_law_976 : decode cL_law 976 = .ok (.goto 4, 3) := by decide +kernel
theorem dL_law_979 : decode cL_law 979 = .ok (.iconst 0, 1) := by decide +kernel
theorem dL_law_980 : decode cL_law 980 = .ok (.aload_n 3, 1) := by decide +kernel
theorem dL_law_981 : decode cL_law 981 = .ok (.invokestatic 122, 3) := by decide +kernel
theorem dL_law_984 : decode cL_law 984 = .ok (.istore 5, 2) := by decide +kernel
theorem dL_law_986 : decode cL_law 986 = .ok (.aload_n 2, 1) := by decide +kernel
theorem dL_law_987 : decode cL_law 987 = .ok (.aload_n 0, 1) := by decide +kernel
theorem dL_law_988 : decode cL_law 988 = .ok (.iload 4, 2) := by decide +kernel
theorem dL_law_990 : decode cL_law 990 = .ok (.iconst 1, 1) := by decide +kernel
theorem dL_law_991 : decode cL_law 991 = .ok (.iadd, 1) := by decide +kernel
theorem dL_law_992 : decode cL_law 992 = .ok (.iaload, 1) := by decide +kernel
theorem dL_law_993 : decode cL_law 993 = .ok (.aload_n 0, 1) := by decide +kernel
theorem dL_law_994 : decode cL_law 994 = .ok (.iload 4, 2) := by decide +kernel
theorem dL_law_996 : decode cL_law 996 = .ok (.iconst 2, 1) := by decide +kernel
theorem dL_law_997 : decode cL_law 997 = .ok (.iadd, 1) := by decide +kernel
theorem dL_law_998 : decode cL_law 998 = .ok (.iaload, 1) := by decide +kernel
theorem dL_law_999 : decode cL_law 999 = .ok (.ifCond .eq 7, 3) := by decide +kernel
theorem dL_law_1002 : decode cL_law 1002 = .ok (.iconst 1, 1) := by decide +kernel
theorem dL_law_1003 : decode cL_law 1003 = .ok (.goto 4, 3) := by decide +kernel
theorem dL_law_1006 : decode cL_law 1006 = .ok (.iconst 0, 1) := by decide +kernel
theorem dL_law_1007 : decode cL_law 1007 = .ok (.invokevirtual 125, 3) := by decide +kernel
theorem dL_law_1010 : decode cL_law 1010 = .ok (.istore 6, 2) := by decide +kernel
theorem dL_law_1012 : decode cL_law 1012 = .ok (.aload_n 2, 1) := by decide +kernel
theorem dL_law_1013 : decode cL_law 1013 = .ok (.invokevirtual 84, 3) := by decide +kernel
theorem dL_law_1016 : decode cL_law 1016 = .ok (.iload 5, 2) := by decide +kernel
theorem dL_law_1018 : decode cL_law 1018 = .ok (.if_icmp .eq 5, 3) := by decide +kernel
theorem dL_law_1021 : decode cL_law 1021 = .ok (.iconst 0, 1) := by decide +kernel
theorem dL_law_1022 : decode cL_law 1022 = .ok (.ireturn, 1) := by decide +kernel
theorem dL_law_1023 : decode cL_law 1023 = .ok (.iload 5, 2) := by decide +kernel
theorem dL_law_1025 : decode cL_law 1025 = .ok (.ifCond .ne 15, 3) := by decide +kernel
theorem dL_law_1028 : decode cL_law 1028 = .ok (.aload_n 3, 1) := by decide +kernel
theorem dL_law_1029 : decode cL_law 1029 = .ok (.iconst 0, 1) := by decide +kernel
theorem dL_law_1030 : decode cL_law 1030 = .ok (.laload, 1) := by decide +kernel
theorem dL_law_1031 : decode cL_law 1031 = .ok (.iload 6, 2) := by decide +kernel
theorem dL_law_1033 : decode cL_law 1033 = .ok (.i2l, 1) := by decide +kernel
theorem dL_law_1034 : decode cL_law 1034 = .ok (.lcmp, 1) := by decide +kernel
theorem dL_law_1035 : decode cL_law 1035 = .ok (.ifCond .eq 5, 3) := by decide +kernel
theorem dL_law_1038 : decode cL_law 1038 = .ok (.iconst 0, 1) := by decide +kernel
theorem dL_law_1039 : decode cL_law 1039 = .ok (.ireturn, 1) := by decide +kernel
theorem dL_law_1040 : decode cL_law 1040 = .ok (.goto 381, 3) := by decide +kernel
theorem dL_law_1043 : decode cL_law 1043 = .ok (.aload_n 1, 1) := by decide +kernel
theorem dL_law_1044 : decode cL_law 1044 = .ok (.aload_n 3, 1) := by decide +kernel
theorem dL_law_1045 : decode cL_law 1045 = .ok (.invokestatic 126, 3) := by decide +kernel
theorem dL_law_1048 : decode cL_law 1048 = .ok (.istore 5, 2) := by decide +kernel
theorem dL_law_1050 : decode cL_law 1050 = .ok (.aload_n 2, 1) := by decide +kernel
theorem dL_law_1051 : decode cL_law 1051 = .ok (.invokevirtual 128, 3) := by decide +kernel
theorem dL_law_1054 : decode cL_law 1054 = .ok (.istore 6, 2) := by decide +kernel
theorem dL_law_1056 : decode cL_law 1056 = .ok (.aload_n 2, 1) := by decide +kernel
theorem dL_law_1057 : decode cL_law 1057 = .ok (.invokevirtual 84, 3) := by decide +kernel
theorem dL_law_1060 : decode cL_law 1060 = .ok (.iload 5, 2) := by decide +kernel
theorem dL_law_1062 : decode cL_law 1062 = .ok (.if_icmp .eq 5, 3) := by decide +kernel
theorem dL_law_1065 : decode cL_law 1065 = .ok (.iconst 0, 1) := by decide +kernel
theorem dL_law_1066 : decode cL_law 1066 = .ok (.ireturn, 1) := by decide +kernel
theorem dL_law_1067 : decode cL_law 1067 = .ok (.iload 5, 2) := by decide +kernel
theorem dL_law_1069 : decode cL_law 1069 = .ok (.ifCond .ne 15, 3) := by decide +kernel
theorem dL_law_1072 : decode cL_law 1072 = .ok (.aload_n 3, 1) := by decide +kernel
theorem dL_law_1073 : decode cL_law 1073 = .ok (.iconst 0, 1) := by decide +kernel
theorem dL_law_1074 : decode cL_law 1074 = .ok (.laload, 1) := by decide +kernel
theorem dL_law_1075 : decode cL_law 1075 = .ok (.iload 6, 2) := by decide +kernel
theorem dL_law_1077 : decode cL_law 1077 = .ok (.i2l, 1) := by decide +kernel
theorem dL_law_1078 : decode cL_law 1078 = .ok (.lcmp, 1) := by decide +kernel
theorem dL_law_1079 : decode cL_law 1079 = .ok (.ifCond .eq 5, 3) := by decide +kernel
theorem dL_law_1082 : decode cL_law 1082 = .ok (.iconst 0, 1) := by decide +kernel
theorem dL_law_1083 : decode cL_law 1083 = .ok (.ireturn, 1) := by decide +kernel
theorem dL_law_1084 : decode cL_law 1084 = .ok (.goto 337, 3) := by decide +kernel
theorem dL_law_1087 : decode cL_law 1087 = .ok (.aload_n 1, 1) := by decide +kernel
theorem dL_law_1088 : decode cL_law 1088 = .ok (.aload_n 0, 1) := by decide +kernel
theorem dL_law_1089 : decode cL_law 1089 = .ok (.iload 4, 2) := by decide +kernel
theorem dL_law_1091 : decode cL_law 1091 = .ok (.iconst 1, 1) := by decide +kernel
theorem dL_law_1092 : decode cL_law 1092 = .ok (.iadd, 1) := by decide +kernel
theorem dL_law_1093 : decode cL_law 1093 = .ok (.iaload, 1) := by decide +kernel
theorem dL_law_1094 : decode cL_law 1094 = .ok (.aload_n 0, 1) := by decide +kernel
theorem dL_law_1095 : decode cL_law 1095 = .ok (.iload 4, 2) := by decide +kernel
theorem dL_law_1097 : decode cL_law 1097 = .ok (.iconst 2, 1) := by decide +kernel
theorem dL_law_1098 : decode cL_law 1098 = .ok (.iadd, 1) := by decide +kernel
theorem dL_law_1099 : decode cL_law 1099 = .ok (.iaload, 1) := by decide +kernel
theorem dL_law_1100 : decode cL_law 1100 = .ok (.aload_n 3, 1) := by decide +kernel
theorem dL_law_1101 : decode cL_law 1101 = .ok (.invokestatic 129, 3) := by decide +kernel
theorem dL_law_1104 : decode cL_law 1104 = .ok (.istore 5, 2) := by decide +kernel
theorem dL_law_1106 : decode cL_law 1106 = .ok (.aload_n 2, 1) := by decide +kernel
theorem dL_law_1107 : decode cL_law 1107 = .ok (.aload_n 0, 1) := by decide +kernel
theorem dL_law_1108 : decode cL_law 1108 = .ok (.iload 4, 2) := by decide +kernel
theorem dL_law_1110 : decode cL_law 1110 = .ok (.iconst 1, 1) := by decide +kernel
theorem dL_law_1111 : decode cL_law 1111 = .ok (.iadd, 1) := by decide +kernel
theorem dL_law_1112 : decode cL_law 1112 = .ok (.iaload, 1) := by decide +kernel
theorem dL_law_1113 : decode cL_law 1113 = .ok (.aload_n 0, 1) := by decide +kernel
theorem dL_law_1114 : decode cL_law 1114 = .ok (.iload 4, 2) := by decide +kernel
theorem dL_law_1116 : decode cL_law 1116 = .ok (.iconst 2, 1) := by decide +kernel
theorem dL_law_1117 : decode cL_law 1117 = .ok (.iadd, 1) := by decide +kernel
theorem dL_law_1118 : decode cL_law 1118 = .ok (.iaload, 1) := by decide +kernel
theorem dL_law_1119 : decode cL_law 1119 = .ok (.invokevirtual 131, 3) := by decide +kernel
theorem dL_law_1122 : decode cL_law 1122 = .ok (.istore 6, 2) := by decide +kernel
theorem dL_law_1124 : decode cL_law 1124 = .ok (.aload_n 2, 1) := by decide +kernel
theorem dL_law_1125 : decode cL_law 1125 = .ok (.invokevirtual 84, 3) := by decide +kernel
theorem dL_law_1128 : decode cL_law 1128 = .ok (.iload 5, 2) := by decide +kernel
theorem dL_law_1130 : decode cL_law 1130 = .ok (.if_icmp .eq 5, 3) := by decide +kernel
theorem dL_law_1133 : decode cL_law 1133 = .ok (.iconst 0, 1) := by decide +kernel
theorem dL_law_1134 : decode cL_law 1134 = .ok (.ireturn, 1) := by decide +kernel
theorem dL_law_1135 : decode cL_law 1135 = .ok (.iload 5, 2) := by decide +kernel
theorem dL_law_1137 : decode cL_law 1137 = .ok (.ifCond .ne 15, 3) := by decide +kernel
theorem dL_law_1140 : decode cL_law 1140 = .ok (.aload_n 3, 1) := by decide +kernel
theorem dL_law_1141 : decode cL_law 1141 = .ok (.iconst 0, 1) := by decide +kernel
theorem dL_law_1142 : decode cL_law 1142 = .ok (.laload, 1) := by decide +kernel
theorem dL_law_1143 : decode cL_law 1143 = .ok (.iload 6, 2) := by decide +kernel
theorem dL_law_1145 : decode cL_law 1145 = .ok (.i2l, 1) := by decide +kernel
theorem dL_law_1146 : decode cL_law 1146 = .ok (.lcmp, 1) := by decide +kernel
theorem dL_law_1147 : decode cL_law 1147 = .ok (.ifCond .eq 5, 3) := by decide +kernel
theorem dL_law_1150 : decode cL_law 1150 = .ok (.iconst 0, 1) := by decide +kernel
theorem dL_law_1151 : decode cL_law 1151 = .ok (.ireturn, 1) := by decide +kernel
theorem dL_law_1152 : decode cL_law 1152 = .ok (.goto 269, 3) := by decide +kernel
theorem dL_law_1155 : decode cL_law 1155 = .ok (.aload_n 1, 1) := by decide +kernel
theorem dL_law_1156 : decode cL_law 1156 = .ok (.aload_n 0, 1) := by decide +kernel
theorem dL_law_1157 : decode cL_law 1157 = .ok (.iload 4, 2) := by decide +kernel
theorem dL_law_1159 : decode cL_law 1159 = .ok (.iconst 1, 1) := by decide +kernel
theorem dL_law_1160 : decode cL_law 1160 = .ok (.iadd, 1) := by decide +kernel
theorem dL_law_1161 : decode cL_law 1161 = .ok (.iaload, 1) := by decide +kernel
theorem dL_law_1162 : decode cL_law 1162 = .ok (.aload_n 0, 1) := by decide +kernel
theorem dL_law_1163 : decode cL_law 1163 = .ok (.iload 4, 2) := by decide +kernel
theorem dL_law_1165 : decode cL_law 1165 = .ok (.iconst 2, 1) := by decide +kernel
theorem dL_law_1166 : decode cL_law 1166 = .ok (.iadd, 1) := by decide +kernel
theorem dL_law_1167 : decode cL_law 1167 = .ok (.iaload, 1) := by decide +kernel
theorem dL_law_1168 : decode cL_law 1168 = .ok (.aload_n 3, 1) := by decide +kernel
theorem dL_law_1169 : decode cL_law 1169 = .ok (.invokestatic 132, 3) := by decide +kernel
theorem dL_law_1172 : decode cL_law 1172 = .ok (.istore 5, 2) := by decide +kernel
theorem dL_law_1174 : decode cL_law 1174 = .ok (.aload_n 2, 1) := by decide +kernel
theorem dL_law_1175 : decode cL_law 1175 = .ok (.aload_n 0, 1) := by decide +kernel
theorem dL_law_1176 : decode cL_law 1176 = .ok (.iload 4, 2) := by decide +kernel
theorem dL_law_1178 : decode cL_law 1178 = .ok (.iconst 1, 1) := by decide +kernel
theorem dL_law_1179 : decode cL_law 1179 = .ok (.iadd, 1) := by decide +kernel
theorem dL_law_1180 : decode cL_law 1180 = .ok (.iaload, 1) := by decide +kernel
theorem dL_law_1181 : decode cL_law 1181 = .ok (.aload_n 0, 1) := by decide +kernel
theorem dL_law_1182 : decode cL_law 1182 = .ok (.iload 4, 2) := by decide +kernel
theorem dL_law_1184 : decode cL_law 1184 = .ok (.iconst 2, 1) := by decide +kernel
theorem dL_law_1185 : decode cL_law 1185 = .ok (.iadd, 1) := by decide +kernel
theorem dL_law_1186 : decode cL_law 1186 = .ok (.iaload, 1) := by decide +kernel
theorem dL_law_1187 : decode cL_law 1187 = .ok (.invokevirtual 134, 3) := by decide +kernel
theorem dL_law_1190 : decode cL_law 1190 = .ok (.istore 6, 2) := by decide +kernel
theorem dL_law_1192 : decode cL_law 1192 = .ok (.aload_n 2, 1) := by decide +kernel
theorem dL_law_1193 : decode cL_law 1193 = .ok (.invokevirtual 84, 3) := by decide +kernel
theorem dL_law_1196 : decode cL_law 1196 = .ok (.iload 5, 2) := by decide +kernel
theorem dL_law_1198 : decode cL_law 1198 = .ok (.if_icmp .eq 5, 3) := by decide +kernel
theorem dL_law_1201 : decode cL_law 1201 = .ok (.iconst 0, 1) := by decide +kernel
theorem dL_law_1202 : decode cL_law 1202 = .ok (.ireturn, 1) := by decide +kernel
theorem dL_law_1203 : decode cL_law 1203 = .ok (.iload 5, 2) := by decide +kernel
theorem dL_law_1205 : decode cL_law 1205 = .ok (.ifCond .ne 22, 3) := by decide +kernel
theorem dL_law_1208 : decode cL_law 1208 = .ok (.aload_n 3, 1) := by decide +kernel
theorem dL_law_1209 : decode cL_law 1209 = .ok (.iconst 0, 1) := by decide +kernel
theorem dL_law_1210 : decode cL_law 1210 = .ok (.laload, 1) := by decide +kernel
theorem dL_law_1211 : decode cL_law 1211 = .ok (.iload 6, 2) := by decide +kernel
theorem dL_law_1213 : decode cL_law 1213 = .ok (.ifCond .eq 7, 3) := by decide +kernel
theorem dL_law_1216 : decode cL_law 1216 = .ok (.lconst 1, 1) := by decide +kernel
theorem dL_law_1217 : decode cL_law 1217 = .ok (.goto 4, 3) := by decide +kernel
theorem dL_law_1220 : decode cL_law 1220 = .ok (.lconst 0, 1) := by decide +kernel
theorem dL_law_1221 : decode cL_law 1221 = .ok (.lcmp, 1) := by decide +kernel
theorem dL_law_1222 : decode cL_law 1222 = .ok (.ifCond .eq 5, 3) := by decide +kernel
theorem dL_law_1225 : decode cL_law 1225 = .ok (.iconst 0, 1) := by decide +kernel
theorem dL_law_1226 : decode cL_law 1226 = .ok (.ireturn, 1) := by decide +kernel
theorem dL_law_1227 : decode cL_law 1227 = .ok (.goto 194, 3) := by decide +kernel
theorem dL_law_1230 : decode cL_law 1230 = .ok (.aload_n 1, 1) := by decide +kernel
theorem dL_law_1231 : decode cL_law 1231 = .ok (.aload_n 0, 1) := by decide +kernel
theorem dL_law_1232 : decode cL_law 1232 = .ok (.iload 4, 2) := by decide +kernel
theorem dL_law_1234 : decode cL_law 1234 = .ok (.iconst 1, 1) := by decide +kernel
theorem dL_law_1235 : decode cL_law 1235 = .ok (.iadd, 1) := by decide +kernel
theorem dL_law_1236 : decode cL_law 1236 = .ok (.iaload, 1) := by decide +kernel
theorem dL_law_1237 : decode cL_law 1237 = .ok (.aload_n 3, 1) := by decide +kernel
theorem dL_law_1238 : decode cL_law 1238 = .ok (.invokestatic 135, 3) := by decide +kernel
theorem dL_law_1241 : decode cL_law 1241 = .ok (.istore 5, 2) := by decide +kernel
theorem dL_law_1243 : decode cL_law 1243 = .ok (.aload_n 2, 1) := by decide +kernel
theorem dL_law_1244 : decode cL_law 1244 = .ok (.aload_n 0, 1) := by decide +kernel
theorem dL_law_1245 : decode cL_law 1245 = .ok (.iload 4, 2) := by decide +kernel
theorem dL_law_1247 : decode cL_law 1247 = .ok (.iconst 1, 1) := by decide +kernel
theorem dL_law_1248 : decode cL_law 1248 = .ok (.iadd, 1) := by decide +kernel
theorem dL_law_1249 : decode cL_law 1249 = .ok (.iaload, 1) := by decide +kernel
theorem dL_law_1250 : decode cL_law 1250 = .ok (.invokevirtual 137, 3) := by decide +kernel
theorem dL_law_1253 : decode cL_law 1253 = .ok (.istore 6, 2) := by decide +kernel
theorem dL_law_1255 : decode cL_law 1255 = .ok (.aload_n 2, 1) := by decide +kernel
theorem dL_law_1256 : decode cL_law 1256 = .ok (.invokevirtual 84, 3) := by decide +kernel
theorem dL_law_1259 : decode cL_law 1259 = .ok (.iload 5, 2) := by decide +kernel
theorem dL_law_1261 : decode cL_law 1261 = .ok (.if_icmp .eq 5, 3) := by decide +kernel
theorem dL_law_1264 : decode cL_law 1264 = .ok (.iconst 0, 1) := by decide +kernel
theorem dL_law_1265 : decode cL_law 1265 = .ok (.ireturn, 1) := by decide +kernel
theorem dL_law_1266 : decode cL_law 1266 = .ok (.iload 5, 2) := by decide +kernel
theorem dL_law_1268 : decode cL_law 1268 = .ok (.ifCond .ne 15, 3) := by decide +kernel
theorem dL_law_1271 : decode cL_law 1271 = .ok (.aload_n 3, 1) := by decide +kernel
theorem dL_law_1272 : decode cL_law 1272 = .ok (.iconst 0, 1) := by decide +kernel
theorem dL_law_1273 : decode cL_law 1273 = .ok (.laload, 1) := by decide +kernel
theorem dL_law_1274 : decode cL_law 1274 = .ok (.iload 6, 2) := by decide +kernel
theorem dL_law_1276 : decode cL_law 1276 = .ok (.i2l, 1) := by decide +kernel
theorem dL_law_1277 : decode cL_law 1277 = .ok (.lcmp, 1) := by decide +kernel
theorem dL_law_1278 : decode cL_law 1278 = .ok (.ifCond .eq 5, 3) := by decide +kernel
theorem dL_law_1281 : decode cL_law 1281 = .ok (.iconst 0, 1) := by decide +kernel
theorem dL_law_1282 : decode cL_law 1282 = .ok (.ireturn, 1) := by decide +kernel
theorem dL_law_1283 : decode cL_law 1283 = .ok (.goto 138, 3) := by decide +kernel
theorem dL_law_1286 : decode cL_law 1286 = .ok (.aload_n 1, 1) := by decide +kernel
theorem dL_law_1287 : decode cL_law 1287 = .ok (.aload_n 0, 1) := by decide +kernel
theorem dL_law_1288 : decode cL_law 1288 = .ok (.iload 4, 2) := by decide +kernel
theorem dL_law_1290 : decode cL_law 1290 = .ok (.iconst 1, 1) := by decide +kernel
theorem dL_law_1291 : decode cL_law 1291 = .ok (.iadd, 1) := by decide +kernel
theorem dL_law_1292 : decode cL_law 1292 = .ok (.iaload, 1) := by decide +kernel
theorem dL_law_1293 : decode cL_law 1293 = .ok (.aload_n 0, 1) := by decide +kernel
theorem dL_law_1294 : decode cL_law 1294 = .ok (.iload 4, 2) := by decide +kernel
theorem dL_law_1296 : decode cL_law 1296 = .ok (.iconst 2, 1) := by decide +kernel
theorem dL_law_1297 : decode cL_law 1297 = .ok (.iadd, 1) := by decide +kernel
theorem dL_law_1298 : decode cL_law 1298 = .ok (.iaload, 1) := by decide +kernel
theorem dL_law_1299 : decode cL_law 1299 = .ok (.aload_n 0, 1) := by decide +kernel
theorem dL_law_1300 : decode cL_law 1300 = .ok (.iload 4, 2) := by decide +kernel
theorem dL_law_1302 : decode cL_law 1302 = .ok (.iconst 3, 1) := by decide +kernel
theorem dL_law_1303 : decode cL_law 1303 = .ok (.iadd, 1) := by decide +kernel
theorem dL_law_1304 : decode cL_law 1304 = .ok (.iaload, 1) := by decide +kernel
theorem dL_law_1305 : decode cL_law 1305 = .ok (.aload_n 3, 1) := by decide +kernel
theorem dL_law_1306 : decode cL_law 1306 = .ok (.invokestatic 138, 3) := by decide +kernel
theorem dL_law_1309 : decode cL_law 1309 = .ok (.istore 5, 2) := by decide +kernel
theorem dL_law_1311 : decode cL_law 1311 = .ok (.aload_n 2, 1) := by decide +kernel
theorem dL_law_1312 : decode cL_law 1312 = .ok (.aload_n 0, 1) := by decide +kernel
theorem dL_law_1313 : decode cL_law 1313 = .ok (.iload 4, 2) := by decide +kernel
theorem dL_law_1315 : decode cL_law 1315 = .ok (.iconst 1, 1) := by decide +kernel
theorem dL_law_1316 : decode cL_law 1316 = .ok (.iadd, 1) := by decide +kernel
theorem dL_law_1317 : decode cL_law 1317 = .ok (.iaload, 1) := by decide +kernel
theorem dL_law_1318 : decode cL_law 1318 = .ok (.aload_n 0, 1) := by decide +kernel
theorem dL_law_1319 : decode cL_law 1319 = .ok (.iload 4, 2) := by decide +kernel
theorem dL_law_1321 : decode cL_law 1321 = .ok (.iconst 2, 1) := by decide +kernel
theorem dL_law_1322 : decode cL_law 1322 = .ok (.iadd, 1) := by decide +kernel
theorem dL_law_1323 : decode cL_law 1323 = .ok (.iaload, 1) := by decide +kernel
theorem dL_law_1324 : decode cL_law 1324 = .ok (.aload_n 0, 1) := by decide +kernel
theorem dL_law_1325 : decode cL_law 1325 = .ok (.iload 4, 2) := by decide +kernel
theorem dL_law_1327 : decode cL_law 1327 = .ok (.iconst 3, 1) := by decide +kernel
theorem dL_law_1328 : decode cL_law 1328 = .ok (.iadd, 1) := by decide +kernel
theorem dL_law_1329 : decode cL_law 1329 = .ok (.iaload, 1) := by decide +kernel
theorem dL_law_1330 : decode cL_law 1330 = .ok (.invokevirtual 140, 3) := by decide +kernel
theorem dL_law_1333 : decode cL_law 1333 = .ok (.istore 6, 2) := by decide +kernel
theorem dL_law_1335 : decode cL_law 1335 = .ok (.aload_n 2, 1) := by decide +kernel
theorem dL_law_1336 : decode cL_law 1336 = .ok (.invokevirtual 84, 3) := by decide +kernel
theorem dL_law_1339 : decode cL_law 1339 = .ok (.iload 5, 2) := by decide +kernel
theorem dL_law_1341 : decode cL_law 1341 = .ok (.if_icmp .eq 5, 3) := by decide +kernel
theorem dL_law_1344 : decode cL_law 1344 = .ok (.iconst 0, 1) := by decide +kernel
theorem dL_law_1345 : decode cL_law 1345 = .ok (.ireturn, 1) := by decide +kernel
theorem dL_law_1346 : decode cL_law 1346 = .ok (.iload 5, 2) := by decide +kernel
theorem dL_law_1348 : decode cL_law 1348 = .ok (.ifCond .ne 15, 3) := by decide +kernel
theorem dL_law_1351 : decode cL_law 1351 = .ok (.aload_n 3, 1) := by decide +kernel
theorem dL_law_1352 : decode cL_law 1352 = .ok (.iconst 0, 1) := by decide +kernel
theorem dL_law_1353 : decode cL_law 1353 = .ok (.laload, 1) := by decide +kernel
theorem dL_law_1354 : decode cL_law 1354 = .ok (.iload 6, 2) := by decide +kernel
theorem dL_law_1356 : decode cL_law 1356 = .ok (.i2l, 1) := by decide +kernel
theorem dL_law_1357 : decode cL_law 1357 = .ok (.lcmp, 1) := by decide +kernel
theorem dL_law_1358 : decode cL_law 1358 = .ok (.ifCond .eq 5, 3) := by decide +kernel
theorem dL_law_1361 : decode cL_law 1361 = .ok (.iconst 0, 1) := by decide +kernel
theorem dL_law_1362 : decode cL_law 1362 = .ok (.ireturn, 1) := by decide +kernel
theorem dL_law_1363 : decode cL_law 1363 = .ok (.goto 58, 3) := by decide +kernel
theorem dL_law_1366 : decode cL_law 1366 = .ok (.aload_n 1, 1) := by decide +kernel
theorem dL_law_1367 : decode cL_law 1367 = .ok (.invokevirtual 141, 3) := by decide +kernel
theorem dL_law_1370 : decode cL_law 1370 = .ok (.dstore 5, 2) := by decide +kernel
theorem dL_law_1372 : decode cL_law 1372 = .ok (.aload_n 2, 1) := by decide +kernel
theorem dL_law_1373 : decode cL_law 1373 = .ok (.invokevirtual 145, 3) := by decide +kernel
theorem dL_law_1376 : decode cL_law 1376 = .ok (.dstore 7, 2) := by decide +kernel
theorem dL_law_1378 : decode cL_law 1378 = .ok (.dload 5, 2) := by decide +kernel
theorem dL_law_1380 : decode cL_law 1380 = .ok (.dload 7, 2) := by decide +kernel
theorem dL_law_1382 : decode cL_law 1382 = .ok (.dcmp .l, 1) := by decide +kernel
theorem dL_law_1383 : decode cL_law 1383 = .ok (.ifCond .eq 21, 3) := by decide +kernel
theorem dL_law_1386 : decode cL_law 1386 = .ok (.dload 5, 2) := by decide +kernel
theorem dL_law_1388 : decode cL_law 1388 = .ok (.dload 5, 2) := by decide +kernel
theorem dL_law_1390 : decode cL_law 1390 = .ok (.dcmp .l, 1) := by decide +kernel
theorem dL_law_1391 : decode cL_law 1391 = .ok (.ifCond .eq 11, 3) := by decide +kernel
theorem dL_law_1394 : decode cL_law 1394 = .ok (.dload 7, 2) := by decide +kernel
theorem dL_law_1396 : decode cL_law 1396 = .ok (.dload 7, 2) := by decide +kernel
theorem dL_law_1398 : decode cL_law 1398 = .ok (.dcmp .l, 1) := by decide +kernel
theorem dL_law_1399 : decode cL_law 1399 = .ok (.ifCond .ne 5, 3) := by decide +kernel
theorem dL_law_1402 : decode cL_law 1402 = .ok (.iconst 0, 1) := by decide +kernel
theorem dL_law_1403 : decode cL_law 1403 = .ok (.ireturn, 1) := by decide +kernel
theorem dL_law_1404 : decode cL_law 1404 = .ok (.goto 17, 3) := by decide +kernel
theorem dL_law_1407 : decode cL_law 1407 = .ok (.aload_n 1, 1) := by decide +kernel
theorem dL_law_1408 : decode cL_law 1408 = .ok (.invokevirtual 146, 3) := by decide +kernel
theorem dL_law_1411 : decode cL_law 1411 = .ok (.aload_n 2, 1) := by decide +kernel
theorem dL_law_1412 : decode cL_law 1412 = .ok (.invokevirtual 150, 3) := by decide +kernel
theorem dL_law_1415 : decode cL_law 1415 = .ok (.lcmp, 1) := by decide +kernel
theorem dL_law_1416 : decode cL_law 1416 = .ok (.ifCond .eq 5, 3) := by decide +kernel
theorem dL_law_1419 : decode cL_law 1419 = .ok (.iconst 0, 1) := by decide +kernel
theorem dL_law_1420 : decode cL_law 1420 = .ok (.ireturn, 1) := by decide +kernel
theorem dL_law_1421 : decode cL_law 1421 = .ok (.iinc 4 6, 3) := by decide +kernel
theorem dL_law_1424 : decode cL_law 1424 = .ok (.goto (-1401), 3) := by decide +kernel
theorem dL_law_1427 : decode cL_law 1427 = .ok (.iconst 1, 1) := by decide +kernel
theorem dL_law_1428 : decode cL_law 1428 = .ok (.ireturn, 1) := by decide +kernel
abbrev vwCl : List vw_C := [(RX0, TX0, 4), (RX1, TX1, 12), (RX2, TX2, 7), (RX3, TX3, 11), (RX4, TX4, 15), (RX5, TX5, 4), (RX6, TX6, 24)]
