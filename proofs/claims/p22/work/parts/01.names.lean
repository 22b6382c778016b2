-- ===== PART A: goes FIRST, ahead of the names: the tables' words, and 'selects' of the private methods out of them =====
/-- a private method of a class that the tables say can be made, by its rows of tables_1 -/
def lw_okq (q : MethodName × Nat) : Prop := (q.1.cls ≠ "java/lang/invoke/MethodHandle" ∧ q.1.cls ≠ "java/lang/invoke/VarHandle") ∧ Cond.instantiable q.1.cls q.2 ∈ tables_1 ∧ Cond.privateMethod q.1 ∈ tables_1 ∧ Cond.instanceMethod q.1 ∈ tables_1
theorem lw_p0 : lw_okq (⟨"java/lang/Throwable", "fillInStackTrace", "(I)Ljava/lang/Throwable;"⟩, 6) := ⟨⟨by decide +kernel, by decide +kernel⟩, List.mem_of_getElem? (i := 231) (by decide +kernel), List.mem_of_getElem? (i := 229) (by decide +kernel), List.mem_of_getElem? (i := 230) (by decide +kernel)⟩
theorem lw_p1 : lw_okq (⟨"FairChecker$StateSpace", "slotOf", "(I)I"⟩, 11) := ⟨⟨by decide +kernel, by decide +kernel⟩, List.mem_of_getElem? (i := 60) (by decide +kernel), List.mem_of_getElem? (i := 283) (by decide +kernel), List.mem_of_getElem? (i := 284) (by decide +kernel)⟩
theorem lw_p2 : lw_okq (⟨"FairChecker$StateSpace", "newState", "(IIII)V"⟩, 11) := ⟨⟨by decide +kernel, by decide +kernel⟩, List.mem_of_getElem? (i := 60) (by decide +kernel), List.mem_of_getElem? (i := 288) (by decide +kernel), List.mem_of_getElem? (i := 289) (by decide +kernel)⟩
theorem lw_p3 : lw_okq (⟨"FairChecker$StateSpace", "addStepsOf", "(ILFairChecker$Protocol;)V"⟩, 11) := ⟨⟨by decide +kernel, by decide +kernel⟩, List.mem_of_getElem? (i := 60) (by decide +kernel), List.mem_of_getElem? (i := 292) (by decide +kernel), List.mem_of_getElem? (i := 293) (by decide +kernel)⟩
theorem lw_p4 : lw_okq (⟨"FairChecker$Move", "guardAllows", "(I)Z"⟩, 12) := ⟨⟨by decide +kernel, by decide +kernel⟩, List.mem_of_getElem? (i := 318) (by decide +kernel), List.mem_of_getElem? (i := 316) (by decide +kernel), List.mem_of_getElem? (i := 317) (by decide +kernel)⟩
theorem lw_p5 : lw_okq (⟨"FairChecker$StateSpace", "addStepsBy", "(LFairChecker$Move;ILFairChecker$Protocol;)V"⟩, 11) := ⟨⟨by decide +kernel, by decide +kernel⟩, List.mem_of_getElem? (i := 60) (by decide +kernel), List.mem_of_getElem? (i := 332) (by decide +kernel), List.mem_of_getElem? (i := 333) (by decide +kernel)⟩
theorem lw_p6 : lw_okq (⟨"FairChecker$StateSpace", "addStep", "(III)V"⟩, 11) := ⟨⟨by decide +kernel, by decide +kernel⟩, List.mem_of_getElem? (i := 60) (by decide +kernel), List.mem_of_getElem? (i := 347) (by decide +kernel), List.mem_of_getElem? (i := 348) (by decide +kernel)⟩
theorem lw_p7 : lw_okq (⟨"FairChecker$StateSpace", "numberOf", "(II)I"⟩, 11) := ⟨⟨by decide +kernel, by decide +kernel⟩, List.mem_of_getElem? (i := 60) (by decide +kernel), List.mem_of_getElem? (i := 351) (by decide +kernel), List.mem_of_getElem? (i := 352) (by decide +kernel)⟩
theorem lw_p8 : lw_okq (⟨"FairChecker$Facts", "isTrue", "(III)Z"⟩, 4) := ⟨⟨by decide +kernel, by decide +kernel⟩, List.mem_of_getElem? (i := 103) (by decide +kernel), List.mem_of_getElem? (i := 451) (by decide +kernel), List.mem_of_getElem? (i := 452) (by decide +kernel)⟩
theorem lw_p9 : lw_okq (⟨"FairChecker$Traps", "begin", "(ILFairChecker$StateSpace;LFairChecker$Facts;)V"⟩, 15) := ⟨⟨by decide +kernel, by decide +kernel⟩, List.mem_of_getElem? (i := 123) (by decide +kernel), List.mem_of_getElem? (i := 473) (by decide +kernel), List.mem_of_getElem? (i := 474) (by decide +kernel)⟩
theorem lw_p10 : lw_okq (⟨"FairChecker$Traps", "walkFrom", "(ILFairChecker$StateSpace;I)V"⟩, 15) := ⟨⟨by decide +kernel, by decide +kernel⟩, List.mem_of_getElem? (i := 123) (by decide +kernel), List.mem_of_getElem? (i := 479) (by decide +kernel), List.mem_of_getElem? (i := 480) (by decide +kernel)⟩
theorem lw_p11 : lw_okq (⟨"FairChecker$Traps", "enter", "(I)V"⟩, 15) := ⟨⟨by decide +kernel, by decide +kernel⟩, List.mem_of_getElem? (i := 123) (by decide +kernel), List.mem_of_getElem? (i := 483) (by decide +kernel), List.mem_of_getElem? (i := 484) (by decide +kernel)⟩
theorem lw_p12 : lw_okq (⟨"FairChecker$Traps", "follow", "(II)V"⟩, 15) := ⟨⟨by decide +kernel, by decide +kernel⟩, List.mem_of_getElem? (i := 123) (by decide +kernel), List.mem_of_getElem? (i := 490) (by decide +kernel), List.mem_of_getElem? (i := 491) (by decide +kernel)⟩
theorem lw_p13 : lw_okq (⟨"FairChecker$Traps", "leave", "(I)V"⟩, 15) := ⟨⟨by decide +kernel, by decide +kernel⟩, List.mem_of_getElem? (i := 123) (by decide +kernel), List.mem_of_getElem? (i := 495) (by decide +kernel), List.mem_of_getElem? (i := 496) (by decide +kernel)⟩
theorem lw_p14 : lw_okq (⟨"FairChecker$Traps", "close", "(ILFairChecker$StateSpace;I)V"⟩, 15) := ⟨⟨by decide +kernel, by decide +kernel⟩, List.mem_of_getElem? (i := 123) (by decide +kernel), List.mem_of_getElem? (i := 499) (by decide +kernel), List.mem_of_getElem? (i := 500) (by decide +kernel)⟩
theorem lw_p15 : lw_okq (⟨"FairChecker$Traps", "lookAt", "(ILFairChecker$StateSpace;)V"⟩, 15) := ⟨⟨by decide +kernel, by decide +kernel⟩, List.mem_of_getElem? (i := 123) (by decide +kernel), List.mem_of_getElem? (i := 503) (by decide +kernel), List.mem_of_getElem? (i := 504) (by decide +kernel)⟩
def lw_privs_1 : List (MethodName × Nat) := [(⟨"java/lang/Throwable", "fillInStackTrace", "(I)Ljava/lang/Throwable;"⟩, 6), (⟨"FairChecker$StateSpace", "slotOf", "(I)I"⟩, 11), (⟨"FairChecker$StateSpace", "newState", "(IIII)V"⟩, 11), (⟨"FairChecker$StateSpace", "addStepsOf", "(ILFairChecker$Protocol;)V"⟩, 11), (⟨"FairChecker$Move", "guardAllows", "(I)Z"⟩, 12), (⟨"FairChecker$StateSpace", "addStepsBy", "(LFairChecker$Move;ILFairChecker$Protocol;)V"⟩, 11), (⟨"FairChecker$StateSpace", "addStep", "(III)V"⟩, 11), (⟨"FairChecker$StateSpace", "numberOf", "(II)I"⟩, 11), (⟨"FairChecker$Facts", "isTrue", "(III)Z"⟩, 4), (⟨"FairChecker$Traps", "begin", "(ILFairChecker$StateSpace;LFairChecker$Facts;)V"⟩, 15), (⟨"FairChecker$Traps", "walkFrom", "(ILFairChecker$StateSpace;I)V"⟩, 15), (⟨"FairChecker$Traps", "enter", "(I)V"⟩, 15), (⟨"FairChecker$Traps", "follow", "(II)V"⟩, 15), (⟨"FairChecker$Traps", "leave", "(I)V"⟩, 15), (⟨"FairChecker$Traps", "close", "(ILFairChecker$StateSpace;I)V"⟩, 15), (⟨"FairChecker$Traps", "lookAt", "(ILFairChecker$StateSpace;)V"⟩, 15)]
theorem lw_r1 : ∀ q ∈ lw_privs_1, lw_okq q := List.forall_mem_cons.mpr ⟨lw_p0, List.forall_mem_cons.mpr ⟨lw_p1, List.forall_mem_cons.mpr ⟨lw_p2, List.forall_mem_cons.mpr ⟨lw_p3, List.forall_mem_cons.mpr ⟨lw_p4, List.forall_mem_cons.mpr ⟨lw_p5, List.forall_mem_cons.mpr ⟨lw_p6, List.forall_mem_cons.mpr ⟨lw_p7, List.forall_mem_cons.mpr ⟨lw_p8, List.forall_mem_cons.mpr ⟨lw_p9, List.forall_mem_cons.mpr ⟨lw_p10, List.forall_mem_cons.mpr ⟨lw_p11, List.forall_mem_cons.mpr ⟨lw_p12, List.forall_mem_cons.mpr ⟨lw_p13, List.forall_mem_cons.mpr ⟨lw_p14, List.forall_mem_cons.mpr ⟨lw_p15, fun _ h => absurd h List.not_mem_nil⟩⟩⟩⟩⟩⟩⟩⟩⟩⟩⟩⟩⟩⟩⟩⟩
theorem lw_p16 : lw_okq (⟨"FairChecker", "canBeFact", "(III)Z"⟩, 4) := ⟨⟨by decide +kernel, by decide +kernel⟩, List.mem_of_getElem? (i := 18) (by decide +kernel), List.mem_of_getElem? (i := 754) (by decide +kernel), List.mem_of_getElem? (i := 755) (by decide +kernel)⟩
def lw_privs_2 : List (MethodName × Nat) := [(⟨"FairChecker", "canBeFact", "(III)Z"⟩, 4)]
theorem lw_r2 : ∀ q ∈ lw_privs_2, lw_okq q := List.forall_mem_cons.mpr ⟨lw_p16, fun _ h => absurd h List.not_mem_nil⟩
def lw_privs : List (MethodName × Nat) := lw_privs_1 ++ (lw_privs_2)
def lw_tbl : List Cond := k2_sels lw_privs ++ tables_1
theorem lw_privs_ok : ∀ q ∈ lw_privs, lw_okq q := by
  show ∀ q ∈ lw_privs_1 ++ (lw_privs_2), lw_okq q
  exact List.forall_mem_append.mpr ⟨lw_r1, lw_r2⟩

def RX0 : String := "FairChecker$Facts"
def TX0 : u_T := fun k => match k with
  | 0 => ("FairChecker$Facts", "sorts", "[I", true)
  | 1 => ("FairChecker$Facts", "firsts", "[I", true)
  | 2 => ("FairChecker$Facts", "seconds", "[I", true)
  | _ => ("FairChecker$Facts", "size", "I", false)
def tyX0 : Nat → FieldType := fun k => match k with
  | 0 => .array .int
  | 1 => .array .int
  | 2 => .array .int
  | _ => .int
theorem nmX0 : ∀ a, a < 4 → ∀ b, b < 4 → a ≠ b → (TX0 a).2.1 ≠ (TX0 b).2.1 := by decide +kernel
theorem tyX0_ok : ∀ k, k < 4 → parseFieldDescriptor (TX0 k).2.2.1 = some (tyX0 k) := by decide +kernel
abbrev cX0_init : ByteArray := prog_2_method_1_code
def yX0_init : MethodName := ⟨RX0, "<init>", "()V"⟩
abbrev cX0_hasFact : ByteArray := prog_2_method_2_code
def yX0_hasFact : MethodName := ⟨RX0, "hasFact", "(I)Z"⟩
abbrev cX0_newFact : ByteArray := prog_2_method_3_code
def yX0_newFact : MethodName := ⟨RX0, "newFact", "(III)I"⟩
abbrev cX0_isTrueIn : ByteArray := prog_2_method_4_code
def yX0_isTrueIn : MethodName := ⟨RX0, "isTrueIn", "(II)Z"⟩
abbrev cX0_isTrue : ByteArray := prog_2_method_5_code
def yX0_isTrue : MethodName := ⟨RX0, "isTrue", "(III)Z"⟩
abbrev cX0_isKnown : ByteArray := prog_2_method_6_code
def yX0_isKnown : MethodName := ⟨RX0, "isKnown", "(II)Z"⟩
def RX1 : String := "FairChecker$Move"
def TX1 : u_T := fun k => match k with
  | 0 => ("FairChecker$Move", "process", "I", true)
  | 1 => ("FairChecker$Move", "number", "I", true)
  | 2 => ("FairChecker$Move", "from", "I", true)
  | 3 => ("FairChecker$Move", "to", "I", true)
  | 4 => ("FairChecker$Move", "hand", "I", true)
  | 5 => ("FairChecker$Move", "guardSort", "I", false)
  | 6 => ("FairChecker$Move", "guardVariable", "I", false)
  | 7 => ("FairChecker$Move", "guardNumber", "I", false)
  | 8 => ("FairChecker$Move", "deedSort", "I", false)
  | 9 => ("FairChecker$Move", "deedVariable", "I", false)
  | 10 => ("FairChecker$Move", "deedNumber", "I", false)
  | _ => ("FairChecker$Move", "deedGreatest", "I", false)
def tyX1 : Nat → FieldType := fun k => match k with
  | 0 => .int
  | 1 => .int
  | 2 => .int
  | 3 => .int
  | 4 => .int
  | 5 => .int
  | 6 => .int
  | 7 => .int
  | 8 => .int
  | 9 => .int
  | 10 => .int
  | _ => .int
theorem nmX1 : ∀ a, a < 12 → ∀ b, b < 12 → a ≠ b → (TX1 a).2.1 ≠ (TX1 b).2.1 := by decide +kernel
theorem tyX1_ok : ∀ k, k < 12 → parseFieldDescriptor (TX1 k).2.2.1 = some (tyX1 k) := by decide +kernel
abbrev cX1_init : ByteArray := prog_3_method_1_code
def yX1_init : MethodName := ⟨RX1, "<init>", "(IIIII)V"⟩
abbrev cX1_setGuard : ByteArray := prog_3_method_2_code
def yX1_setGuard : MethodName := ⟨RX1, "setGuard", "(III)I"⟩
abbrev cX1_setDeed : ByteArray := prog_3_method_3_code
def yX1_setDeed : MethodName := ⟨RX1, "setDeed", "(IIII)I"⟩
abbrev cX1_isOpenIn : ByteArray := prog_3_method_4_code
def yX1_isOpenIn : MethodName := ⟨RX1, "isOpenIn", "(I)Z"⟩
abbrev cX1_guardAllows : ByteArray := prog_3_method_5_code
def yX1_guardAllows : MethodName := ⟨RX1, "guardAllows", "(I)Z"⟩
abbrev cX1_afterDeed : ByteArray := prog_3_method_6_code
def yX1_afterDeed : MethodName := ⟨RX1, "afterDeed", "(I)I"⟩
abbrev cX1_afterGoing : ByteArray := prog_3_method_7_code
def yX1_afterGoing : MethodName := ⟨RX1, "afterGoing", "(I)I"⟩
def RX2 : String := "FairChecker$Protocol"
def TX2 : u_T := fun k => match k with
  | 0 => ("FairChecker$Protocol", "locations", "[I", true)
  | 1 => ("FairChecker$Protocol", "moveCounts", "[I", true)
  | 2 => ("FairChecker$Protocol", "moves", "[LFairChecker$Move;", true)
  | 3 => ("FairChecker$Protocol", "greatest", "[I", true)
  | 4 => ("FairChecker$Protocol", "begin", "[I", true)
  | 5 => ("FairChecker$Protocol", "processes", "I", false)
  | _ => ("FairChecker$Protocol", "variables", "I", false)
def tyX2 : Nat → FieldType := fun k => match k with
  | 0 => .array .int
  | 1 => .array .int
  | 2 => .array (.object "FairChecker$Move")
  | 3 => .array .int
  | 4 => .array .int
  | 5 => .int
  | _ => .int
theorem nmX2 : ∀ a, a < 7 → ∀ b, b < 7 → a ≠ b → (TX2 a).2.1 ≠ (TX2 b).2.1 := by decide +kernel
theorem tyX2_ok : ∀ k, k < 7 → parseFieldDescriptor (TX2 k).2.2.1 = some (tyX2 k) := by decide +kernel
abbrev cX2_init : ByteArray := prog_4_method_1_code
def yX2_init : MethodName := ⟨RX2, "<init>", "()V"⟩
abbrev cX2_hasProcess : ByteArray := prog_4_method_2_code
def yX2_hasProcess : MethodName := ⟨RX2, "hasProcess", "(I)Z"⟩
abbrev cX2_hasLocation : ByteArray := prog_4_method_3_code
def yX2_hasLocation : MethodName := ⟨RX2, "hasLocation", "(II)Z"⟩
abbrev cX2_hasVariable : ByteArray := prog_4_method_4_code
def yX2_hasVariable : MethodName := ⟨RX2, "hasVariable", "(I)Z"⟩
abbrev cX2_greatestOf : ByteArray := prog_4_method_5_code
def yX2_greatestOf : MethodName := ⟨RX2, "greatestOf", "(I)I"⟩
abbrev cX2_movesOf : ByteArray := prog_4_method_6_code
def yX2_movesOf : MethodName := ⟨RX2, "movesOf", "(I)I"⟩
abbrev cX2_find : ByteArray := prog_4_method_8_code
def yX2_find : MethodName := ⟨RX2, "find", "(II)LFairChecker$Move;"⟩
abbrev cX2_newProcess : ByteArray := prog_4_method_9_code
def yX2_newProcess : MethodName := ⟨RX2, "newProcess", "(I)I"⟩
abbrev cX2_newVariable : ByteArray := prog_4_method_10_code
def yX2_newVariable : MethodName := ⟨RX2, "newVariable", "(II)I"⟩
abbrev cX2_newMove : ByteArray := prog_4_method_11_code
def yX2_newMove : MethodName := ⟨RX2, "newMove", "(IIII)I"⟩
abbrev cX2_keyAtBeginning : ByteArray := prog_4_method_12_code
def yX2_keyAtBeginning : MethodName := ⟨RX2, "keyAtBeginning", "()I"⟩
def RX3 : String := "FairChecker$StateSpace"
def TX3 : u_T := fun k => match k with
  | 0 => ("FairChecker$StateSpace", "keys", "[I", true)
  | 1 => ("FairChecker$StateSpace", "depths", "[I", true)
  | 2 => ("FairChecker$StateSpace", "parents", "[I", true)
  | 3 => ("FairChecker$StateSpace", "parentSteps", "[I", true)
  | 4 => ("FairChecker$StateSpace", "takers", "[I", true)
  | 5 => ("FairChecker$StateSpace", "firstSteps", "[I", true)
  | 6 => ("FairChecker$StateSpace", "slots", "[I", true)
  | 7 => ("FairChecker$StateSpace", "packedSteps", "[I", false)
  | 8 => ("FairChecker$StateSpace", "states", "I", false)
  | 9 => ("FairChecker$StateSpace", "steps", "I", false)
  | _ => ("FairChecker$StateSpace", "isTooLarge", "Z", false)
def tyX3 : Nat → FieldType := fun k => match k with
  | 0 => .array .int
  | 1 => .array .int
  | 2 => .array .int
  | 3 => .array .int
  | 4 => .array .int
  | 5 => .array .int
  | 6 => .array .int
  | 7 => .array .int
  | 8 => .int
  | 9 => .int
  | _ => .boolean
theorem nmX3 : ∀ a, a < 11 → ∀ b, b < 11 → a ≠ b → (TX3 a).2.1 ≠ (TX3 b).2.1 := by decide +kernel
theorem tyX3_ok : ∀ k, k < 11 → parseFieldDescriptor (TX3 k).2.2.1 = some (tyX3 k) := by decide +kernel
abbrev cX3_init : ByteArray := prog_5_method_1_code
def yX3_init : MethodName := ⟨RX3, "<init>", "()V"⟩
abbrev cX3_isExplored : ByteArray := prog_5_method_2_code
def yX3_isExplored : MethodName := ⟨RX3, "isExplored", "()Z"⟩
abbrev cX3_hasState : ByteArray := prog_5_method_3_code
def yX3_hasState : MethodName := ⟨RX3, "hasState", "(I)Z"⟩
abbrev cX3_keyOf : ByteArray := prog_5_method_4_code
def yX3_keyOf : MethodName := ⟨RX3, "keyOf", "(I)I"⟩
abbrev cX3_depthOf : ByteArray := prog_5_method_5_code
def yX3_depthOf : MethodName := ⟨RX3, "depthOf", "(I)I"⟩
abbrev cX3_parentOf : ByteArray := prog_5_method_6_code
def yX3_parentOf : MethodName := ⟨RX3, "parentOf", "(I)I"⟩
abbrev cX3_parentStepOf : ByteArray := prog_5_method_7_code
def yX3_parentStepOf : MethodName := ⟨RX3, "parentStepOf", "(I)I"⟩
abbrev cX3_stepsOf : ByteArray := prog_5_method_8_code
def yX3_stepsOf : MethodName := ⟨RX3, "stepsOf", "(I)I"⟩
abbrev cX3_packedStep : ByteArray := prog_5_method_9_code
def yX3_packedStep : MethodName := ⟨RX3, "packedStep", "(II)I"⟩
abbrev cX3_takersIn : ByteArray := prog_5_method_10_code
def yX3_takersIn : MethodName := ⟨RX3, "takersIn", "(I)I"⟩
abbrev cX3_onTheWay : ByteArray := prog_5_method_11_code
def yX3_onTheWay : MethodName := ⟨RX3, "onTheWay", "(II)I"⟩
abbrev cX3_partOf : ByteArray := prog_5_method_12_code
def yX3_partOf : MethodName := ⟨RX3, "partOf", "(II)I"⟩
abbrev cX3_takersOf : ByteArray := prog_5_method_13_code
def yX3_takersOf : MethodName := ⟨RX3, "takersOf", "(I)I"⟩
abbrev cX3_forget : ByteArray := prog_5_method_14_code
def yX3_forget : MethodName := ⟨RX3, "forget", "()V"⟩
abbrev cX3_fill : ByteArray := prog_5_method_15_code
def yX3_fill : MethodName := ⟨RX3, "fill", "(LFairChecker$Protocol;)I"⟩
abbrev cX3_addStepsOf : ByteArray := prog_5_method_16_code
def yX3_addStepsOf : MethodName := ⟨RX3, "addStepsOf", "(ILFairChecker$Protocol;)V"⟩
abbrev cX3_addStepsBy : ByteArray := prog_5_method_17_code
def yX3_addStepsBy : MethodName := ⟨RX3, "addStepsBy", "(LFairChecker$Move;ILFairChecker$Protocol;)V"⟩
abbrev cX3_packedMover : ByteArray := prog_5_method_18_code
def yX3_packedMover : MethodName := ⟨RX3, "packedMover", "(LFairChecker$Move;)I"⟩
abbrev cX3_packedOther : ByteArray := prog_5_method_19_code
def yX3_packedOther : MethodName := ⟨RX3, "packedOther", "(LFairChecker$Move;)I"⟩
abbrev cX3_addStep : ByteArray := prog_5_method_20_code
def yX3_addStep : MethodName := ⟨RX3, "addStep", "(III)V"⟩
abbrev cX3_numberOf : ByteArray := prog_5_method_21_code
def yX3_numberOf : MethodName := ⟨RX3, "numberOf", "(II)I"⟩
abbrev cX3_newState : ByteArray := prog_5_method_22_code
def yX3_newState : MethodName := ⟨RX3, "newState", "(IIII)V"⟩
abbrev cX3_slotOf : ByteArray := prog_5_method_23_code
def yX3_slotOf : MethodName := ⟨RX3, "slotOf", "(I)I"⟩
def RX4 : String := "FairChecker$Traps"
def TX4 : u_T := fun k => match k with
  | 0 => ("FairChecker$Traps", "isWithout", "[Z", true)
  | 1 => ("FairChecker$Traps", "isWaiting", "[Z", true)
  | 2 => ("FairChecker$Traps", "isBadHere", "[Z", true)
  | 3 => ("FairChecker$Traps", "orders", "[I", true)
  | 4 => ("FairChecker$Traps", "lowest", "[I", true)
  | 5 => ("FairChecker$Traps", "nextSteps", "[I", true)
  | 6 => ("FairChecker$Traps", "path", "[I", true)
  | 7 => ("FairChecker$Traps", "waiting", "[I", true)
  | 8 => ("FairChecker$Traps", "pathLength", "I", false)
  | 9 => ("FairChecker$Traps", "waitingCount", "I", false)
  | 10 => ("FairChecker$Traps", "entered", "I", false)
  | 11 => ("FairChecker$Traps", "lookedFor", "I", false)
  | 12 => ("FairChecker$Traps", "trappedStates", "I", false)
  | 13 => ("FairChecker$Traps", "fairTo", "I", false)
  | _ => ("FairChecker$Traps", "goesToBad", "Z", false)
def tyX4 : Nat → FieldType := fun k => match k with
  | 0 => .array .boolean
  | 1 => .array .boolean
  | 2 => .array .boolean
  | 3 => .array .int
  | 4 => .array .int
  | 5 => .array .int
  | 6 => .array .int
  | 7 => .array .int
  | 8 => .int
  | 9 => .int
  | 10 => .int
  | 11 => .int
  | 12 => .int
  | 13 => .int
  | _ => .boolean
theorem nmX4 : ∀ a, a < 15 → ∀ b, b < 15 → a ≠ b → (TX4 a).2.1 ≠ (TX4 b).2.1 := by decide +kernel
theorem tyX4_ok : ∀ k, k < 15 → parseFieldDescriptor (TX4 k).2.2.1 = some (tyX4 k) := by decide +kernel
abbrev cX4_init : ByteArray := prog_6_method_1_code
def yX4_init : MethodName := ⟨RX4, "<init>", "()V"⟩
abbrev cX4_forget : ByteArray := prog_6_method_2_code
def yX4_forget : MethodName := ⟨RX4, "forget", "()V"⟩
abbrev cX4_isBadState : ByteArray := prog_6_method_3_code
def yX4_isBadState : MethodName := ⟨RX4, "isBadState", "(I)Z"⟩
abbrev cX4_lookFor : ByteArray := prog_6_method_4_code
def yX4_lookFor : MethodName := ⟨RX4, "lookFor", "(ILFairChecker$StateSpace;LFairChecker$Facts;I)V"⟩
abbrev cX4_begin : ByteArray := prog_6_method_5_code
def yX4_begin : MethodName := ⟨RX4, "begin", "(ILFairChecker$StateSpace;LFairChecker$Facts;)V"⟩
abbrev cX4_walkFrom : ByteArray := prog_6_method_6_code
def yX4_walkFrom : MethodName := ⟨RX4, "walkFrom", "(ILFairChecker$StateSpace;I)V"⟩
abbrev cX4_enter : ByteArray := prog_6_method_7_code
def yX4_enter : MethodName := ⟨RX4, "enter", "(I)V"⟩
abbrev cX4_follow : ByteArray := prog_6_method_8_code
def yX4_follow : MethodName := ⟨RX4, "follow", "(II)V"⟩
abbrev cX4_leave : ByteArray := prog_6_method_9_code
def yX4_leave : MethodName := ⟨RX4, "leave", "(I)V"⟩
abbrev cX4_close : ByteArray := prog_6_method_10_code
def yX4_close : MethodName := ⟨RX4, "close", "(ILFairChecker$StateSpace;I)V"⟩
abbrev cX4_lookAt : ByteArray := prog_6_method_11_code
def yX4_lookAt : MethodName := ⟨RX4, "lookAt", "(ILFairChecker$StateSpace;)V"⟩
def RX5 : String := "FairChecker"
def TX5 : u_T := fun k => match k with
  | 0 => ("FairChecker", "protocol", "LFairChecker$Protocol;", true)
  | 1 => ("FairChecker", "space", "LFairChecker$StateSpace;", true)
  | 2 => ("FairChecker", "facts", "LFairChecker$Facts;", true)
  | _ => ("FairChecker", "traps", "LFairChecker$Traps;", true)
def tyX5 : Nat → FieldType := fun k => match k with
  | 0 => .object "FairChecker$Protocol"
  | 1 => .object "FairChecker$StateSpace"
  | 2 => .object "FairChecker$Facts"
  | _ => .object "FairChecker$Traps"
theorem nmX5 : ∀ a, a < 4 → ∀ b, b < 4 → a ≠ b → (TX5 a).2.1 ≠ (TX5 b).2.1 := by decide +kernel
theorem tyX5_ok : ∀ k, k < 4 → parseFieldDescriptor (TX5 k).2.2.1 = some (tyX5 k) := by decide +kernel
abbrev cX5_init : ByteArray := prog_1_method_1_code
def yX5_init : MethodName := ⟨RX5, "<init>", "()V"⟩
abbrev cX5_addProcess : ByteArray := prog_1_method_2_code
def yX5_addProcess : MethodName := ⟨RX5, "addProcess", "(I)I"⟩
abbrev cX5_addVariable : ByteArray := prog_1_method_3_code
def yX5_addVariable : MethodName := ⟨RX5, "addVariable", "(II)I"⟩
abbrev cX5_addMove : ByteArray := prog_1_method_4_code
def yX5_addMove : MethodName := ⟨RX5, "addMove", "(IIII)I"⟩
abbrev cX5_guard : ByteArray := prog_1_method_5_code
def yX5_guard : MethodName := ⟨RX5, "guard", "(IIIII)I"⟩
abbrev cX5_deed : ByteArray := prog_1_method_6_code
def yX5_deed : MethodName := ⟨RX5, "deed", "(IIIII)I"⟩
abbrev cX5_explore : ByteArray := prog_1_method_8_code
def yX5_explore : MethodName := ⟨RX5, "explore", "()I"⟩
abbrev cX5_state : ByteArray := prog_1_method_9_code
def yX5_state : MethodName := ⟨RX5, "state", "(II)I"⟩
abbrev cX5_step : ByteArray := prog_1_method_10_code
def yX5_step : MethodName := ⟨RX5, "step", "(III)I"⟩
abbrev cX5_addFact : ByteArray := prog_1_method_11_code
def yX5_addFact : MethodName := ⟨RX5, "addFact", "(III)I"⟩
abbrev cX5_holds : ByteArray := prog_1_method_12_code
def yX5_holds : MethodName := ⟨RX5, "holds", "(II)Z"⟩
abbrev cX5_leads : ByteArray := prog_1_method_15_code
def yX5_leads : MethodName := ⟨RX5, "leads", "(II)I"⟩
abbrev cX5_isBad : ByteArray := prog_1_method_16_code
def yX5_isBad : MethodName := ⟨RX5, "isBad", "(II)Z"⟩
abbrev cX5_way : ByteArray := prog_1_method_18_code
def yX5_way : MethodName := ⟨RX5, "way", "(III)I"⟩
abbrev cX5_isBetween : ByteArray := prog_1_method_21_code
def yX5_isBetween : MethodName := ⟨RX5, "isBetween", "(III)Z"⟩
abbrev cX5_canBeFact : ByteArray := prog_1_method_23_code
def yX5_canBeFact : MethodName := ⟨RX5, "canBeFact", "(III)Z"⟩
abbrev cX5_locationIn : ByteArray := prog_1_method_28_code
def yX5_locationIn : MethodName := ⟨RX5, "locationIn", "(II)I"⟩
abbrev cX5_withLocation : ByteArray := prog_1_method_29_code
def yX5_withLocation : MethodName := ⟨RX5, "withLocation", "(III)I"⟩
abbrev cX5_valueIn : ByteArray := prog_1_method_30_code
def yX5_valueIn : MethodName := ⟨RX5, "valueIn", "(II)I"⟩
abbrev cX5_withValue : ByteArray := prog_1_method_31_code
def yX5_withValue : MethodName := ⟨RX5, "withValue", "(III)I"⟩
def RX6 : String := "FairCheckerLaw$Hand"
def TX6 : u_T := fun k => match k with
  | 0 => ("FairCheckerLaw$Hand", "locations", "[I", false)
  | 1 => ("FairCheckerLaw$Hand", "greatest", "[I", false)
  | 2 => ("FairCheckerLaw$Hand", "begins", "[I", false)
  | 3 => ("FairCheckerLaw$Hand", "moves", "[[[I", false)
  | 4 => ("FairCheckerLaw$Hand", "states", "[[I", false)
  | 5 => ("FairCheckerLaw$Hand", "steps", "[[[I", false)
  | 6 => ("FairCheckerLaw$Hand", "from", "[I", false)
  | _ => ("FairCheckerLaw$Hand", "fromStep", "[I", false)
def tyX6 : Nat → FieldType := fun k => match k with
  | 0 => .array .int
  | 1 => .array .int
  | 2 => .array .int
  | 3 => .array (.array (.array .int))
  | 4 => .array (.array .int)
  | 5 => .array (.array (.array .int))
  | 6 => .array .int
  | _ => .array .int
theorem nmX6 : ∀ a, a < 8 → ∀ b, b < 8 → a ≠ b → (TX6 a).2.1 ≠ (TX6 b).2.1 := by decide +kernel
theorem tyX6_ok : ∀ k, k < 8 → parseFieldDescriptor (TX6 k).2.2.1 = some (tyX6 k) := by decide +kernel
abbrev cX6_init : ByteArray := prog_8_method_1_code
def yX6_init : MethodName := ⟨RX6, "<init>", "()V"⟩
abbrev cX6_more : ByteArray := prog_8_method_2_code
def yX6_more : MethodName := ⟨RX6, "more", "([II)[I"⟩
abbrev cX6_more_ : ByteArray := prog_8_method_3_code
def yX6_more_ : MethodName := ⟨RX6, "more", "([[I[I)[[I"⟩
abbrev cX6_done : ByteArray := prog_8_method_4_code
def yX6_done : MethodName := ⟨RX6, "done", "([II[I)[I"⟩
abbrev cX6_isOpen : ByteArray := prog_8_method_5_code
def yX6_isOpen : MethodName := ⟨RX6, "isOpen", "([II[I)Z"⟩
abbrev cX6_find : ByteArray := prog_8_method_6_code
def yX6_find : MethodName := ⟨RX6, "find", "([I)I"⟩
abbrev cX6_number : ByteArray := prog_8_method_7_code
def yX6_number : MethodName := ⟨RX6, "number", "([III)I"⟩
abbrev cX6_explore : ByteArray := prog_8_method_8_code
def yX6_explore : MethodName := ⟨RX6, "explore", "(I)Z"⟩
def RX7 : String := "FairCheckerModel"
def TX7 : u_T := fun k => match k with
  | _ => ("", "", "", false)
def tyX7 : Nat → FieldType := fun k => match k with
  | _ => .int
theorem nmX7 : ∀ a, a < 0 → ∀ b, b < 0 → a ≠ b → (TX7 a).2.1 ≠ (TX7 b).2.1 := by decide +kernel
theorem tyX7_ok : ∀ k, k < 0 → parseFieldDescriptor (TX7 k).2.2.1 = some (tyX7 k) := by decide +kernel
def RJ9 : String := "java/lang/Math"
abbrev cJ9_min_7cf53 : ByteArray := prog_15_method_69_code
def yJ9_min_7cf53 : MethodName := ⟨RJ9, "min", "(II)I"⟩
def RJ0 : String := "java/lang/String"
def RJ10 : String := "java/lang/System"
def RJ7 : String := "java/util/Arrays"
abbrev cJ7_fill_53178 : ByteArray := prog_20_method_103_code
def yJ7_fill_53178 : MethodName := ⟨RJ7, "fill", "([II)V"⟩
abbrev cJ7_copyOf_59c91 : ByteArray := prog_20_method_123_code
def yJ7_copyOf_59c91 : MethodName := ⟨RJ7, "copyOf", "([II)[I"⟩
def RL : String := "FairCheckerLaw"
abbrev cL_below : ByteArray := method_2_code
def yL_below : MethodName := ⟨RL, "below", "(II)I"⟩
abbrev cL_cell : ByteArray := method_3_code
def yL_cell : MethodName := ⟨RL, "cell", "([II)I"⟩
abbrev cL_build : ByteArray := method_4_code
def yL_build : MethodName := ⟨RL, "build", "(LFairChecker;[I)LFairCheckerLaw$Hand;"⟩
abbrev cL_facts : ByteArray := method_5_code
def yL_facts : MethodName := ⟨RL, "facts", "(LFairChecker;LFairCheckerLaw$Hand;[II)[[Z"⟩
abbrev cL_law : ByteArray := code
def yL_law : MethodName := ⟨RL, "law", "([I)Z"⟩
theorem dX0_init_0 : decode cX0_init 0 = .ok (.aload_n 0, 1) := by decide +kernel
theorem dX0_init_1 : decode cX0_init 1 = .ok (.invokespecial 3, 3) := by decide +kernel
theorem dX0_init_4 : decode cX0_init 4 = .ok (.aload_n 0, 1) := by decide +kernel
theorem dX0_init_5 : decode cX0_init 5 = .ok (.bipush 12, 2) := by decide +kernel
theorem dX0_init_7 : decode cX0_init 7 = .ok (.newarray .int, 2) := by decide +kernel
theorem dX0_init_9 : decode cX0_init 9 = .ok (.putfield 9, 3) := by decide +kernel
theorem dX0_init_12 : decode cX0_init 12 = .ok (.aload_n 0, 1) := by decide +kernel
theorem dX0_init_13 : decode cX0_init 13 = .ok (.bipush 12, 2) := by decide +kernel
theorem dX0_init_15 : decode cX0_init 15 = .ok (.newarray .int, 2) := by decide +kernel
theorem dX0_init_17 : decode cX0_init 17 = .ok (.putfield 15, 3) := by decide +kernel
theorem dX0_init_20 : decode cX0_init 20 = .ok (.aload_n 0, 1) := by decide +kernel
theorem dX0_init_21 : decode cX0_init 21 = .ok (.bipush 12, 2) := by decide +kernel
theorem dX0_init_23 : decode cX0_init 23 = .ok (.newarray .int, 2) := by decide +kernel
theorem dX0_init_25 : decode cX0_init 25 = .ok (.putfield 18, 3) := by decide +kernel
theorem dX0_init_28 : decode cX0_init 28 = .ok (.return_, 1) := by decide +kernel
theorem dX0_hasFact_0 : decode cX0_hasFact 0 = .ok (.iload_n 1, 1) := by decide +kernel
theorem dX0_hasFact_1 : decode cX0_hasFact 1 = .ok (.ifCond .lt 15, 3) := by decide +kernel
theorem dX0_hasFact_4 : decode cX0_hasFact 4 = .ok (.iload_n 1, 1) := by decide +kernel
theorem dX0_hasFact_5 : decode cX0_hasFact 5 = .ok (.aload_n 0, 1) := by decide +kernel
theorem dX0_hasFact_6 : decode cX0_hasFact 6 = .ok (.getfield 21, 3) := by decide +kernel
theorem dX0_hasFact_9 : decode cX0_hasFact 9 = .ok (.if_icmp .ge 7, 3) := by decide +kernel
theorem dX0_hasFact_12 : decode cX0_hasFact 12 = .ok (.iconst 1, 1) := by decide +kernel
theorem dX0_hasFact_13 : decode cX0_hasFact 13 = .ok (.goto 4, 3) := by decide +kernel
theorem dX0_hasFact_16 : decode cX0_hasFact 16 = .ok (.iconst 0, 1) := by decide +kernel
theorem dX0_hasFact_17 : decode cX0_hasFact 17 = .ok (.ireturn, 1) := by decide +kernel
theorem dX0_newFact_0 : decode cX0_newFact 0 = .ok (.aload_n 0, 1) := by decide +kernel
theorem dX0_newFact_1 : decode cX0_newFact 1 = .ok (.getfield 9, 3) := by decide +kernel
theorem dX0_newFact_4 : decode cX0_newFact 4 = .ok (.aload_n 0, 1) := by decide +kernel
theorem dX0_newFact_5 : decode cX0_newFact 5 = .ok (.getfield 21, 3) := by decide +kernel
theorem dX0_newFact_8 : decode cX0_newFact 8 = .ok (.iload_n 1, 1) := by decide +kernel
theorem dX0_newFact_9 : decode cX0_newFact 9 = .ok (.iastore, 1) := by decide +kernel
theorem dX0_newFact_10 : decode cX0_newFact 10 = .ok (.aload_n 0, 1) := by decide +kernel
theorem dX0_newFact_11 : decode cX0_newFact 11 = .ok (.getfield 15, 3) := by decide +kernel
theorem dX0_newFact_14 : decode cX0_newFact 14 = .ok (.aload_n 0, 1) := by decide +kernel
theorem dX0_newFact_15 : decode cX0_newFact 15 = .ok (.getfield 21, 3) := by decide +kernel
theorem dX0_newFact_18 : decode cX0_newFact 18 = .ok (.iload_n 2, 1) := by decide +kernel
theorem dX0_newFact_19 : decode cX0_newFact 19 = .ok (.iastore, 1) := by decide +kernel
theorem dX0_newFact_20 : decode cX0_newFact 20 = .ok (.aload_n 0, 1) := by decide +kernel
theorem dX0_newFact_21 : decode cX0_newFact 21 = .ok (.getfield 18, 3) := by decide +kernel
theorem dX0_newFact_24 : decode cX0_newFact 24 = .ok (.aload_n 0, 1) := by decide +kernel
theorem dX0_newFact_25 : decode cX0_newFact 25 = .ok (.getfield 21, 3) := by decide +kernel
theorem dX0_newFact_28 : decode cX0_newFact 28 = .ok (.iload_n 3, 1) := by decide +kernel
theorem dX0_newFact_29 : decode cX0_newFact 29 = .ok (.iastore, 1) := by decide +kernel
theorem dX0_newFact_30 : decode cX0_newFact 30 = .ok (.aload_n 0, 1) := by decide +kernel
theorem dX0_newFact_31 : decode cX0_newFact 31 = .ok (.dup, 1) := by decide +kernel
theorem dX0_newFact_32 : decode cX0_newFact 32 = .ok (.getfield 21, 3) := by decide +kernel
theorem dX0_newFact_35 : decode cX0_newFact 35 = .ok (.iconst 1, 1) := by decide +kernel
theorem dX0_newFact_36 : decode cX0_newFact 36 = .ok (.iadd, 1) := by decide +kernel
theorem dX0_newFact_37 : decode cX0_newFact 37 = .ok (.putfield 21, 3) := by decide +kernel
theorem dX0_newFact_40 : decode cX0_newFact 40 = .ok (.aload_n 0, 1) := by decide +kernel
theorem dX0_newFact_41 : decode cX0_newFact 41 = .ok (.getfield 21, 3) := by decide +kernel
theorem dX0_newFact_44 : decode cX0_newFact 44 = .ok (.iconst 1, 1) := by decide +kernel
theorem dX0_newFact_45 : decode cX0_newFact 45 = .ok (.isub, 1) := by decide +kernel
theorem dX0_newFact_46 : decode cX0_newFact 46 = .ok (.ireturn, 1) := by decide +kernel
theorem dX0_isTrueIn_0 : decode cX0_isTrueIn 0 = .ok (.iconst 0, 1) := by decide +kernel
theorem dX0_isTrueIn_1 : decode cX0_isTrueIn 1 = .ok (.istore_n 3, 1) := by decide +kernel
theorem dX0_isTrueIn_2 : decode cX0_isTrueIn 2 = .ok (.iconst 0, 1) := by decide +kernel
theorem dX0_isTrueIn_3 : decode cX0_isTrueIn 3 = .ok (.istore 4, 2) := by decide +kernel
theorem dX0_isTrueIn_5 : decode cX0_isTrueIn 5 = .ok (.iload 4, 2) := by decide +kernel
theorem dX0_isTrueIn_7 : decode cX0_isTrueIn 7 = .ok (.iload_n 1, 1) := by decide +kernel
theorem dX0_isTrueIn_8 : decode cX0_isTrueIn 8 = .ok (.if_icmp .gt 36, 3) := by decide +kernel
theorem dX0_isTrueIn_11 : decode cX0_isTrueIn 11 = .ok (.iload 4, 2) := by decide +kernel
theorem dX0_isTrueIn_13 : decode cX0_isTrueIn 13 = .ok (.aload_n 0, 1) := by decide +kernel
theorem dX0_isTrueIn_14 : decode cX0_isTrueIn 14 = .ok (.getfield 21, 3) := by decide +kernel
theorem dX0_isTrueIn_17 : decode cX0_isTrueIn 17 = .ok (.if_icmp .ge 27, 3) := by decide +kernel
theorem dX0_isTrueIn_20 : decode cX0_isTrueIn 20 = .ok (.aload_n 0, 1) := by decide +kernel
theorem dX0_isTrueIn_21 : decode cX0_isTrueIn 21 = .ok (.iload 4, 2) := by decide +kernel
theorem dX0_isTrueIn_23 : decode cX0_isTrueIn 23 = .ok (.iload_n 2, 1) := by decide +kernel
theorem dX0_isTrueIn_24 : decode cX0_isTrueIn 24 = .ok (.iload_n 3, 1) := by decide +kernel
theorem dX0_isTrueIn_25 : decode cX0_isTrueIn 25 = .ok (.invokevirtual 25, 3) := by decide +kernel
theorem dX0_isTrueIn_28 : decode cX0_isTrueIn 28 = .ok (.ifCond .eq 10, 3) := by decide +kernel
theorem dX0_isTrueIn_31 : decode cX0_isTrueIn 31 = .ok (.iload_n 3, 1) := by decide +kernel
theorem dX0_isTrueIn_32 : decode cX0_isTrueIn 32 = .ok (.iconst 1, 1) := by decide +kernel
theorem dX0_isTrueIn_33 : decode cX0_isTrueIn 33 = .ok (.iload 4, 2) := by decide +kernel
theorem dX0_isTrueIn_35 : decode cX0_isTrueIn 35 = .ok (.ishl, 1) := by decide +kernel
theorem dX0_isTrueIn_36 : decode cX0_isTrueIn 36 = .ok (.ior, 1) := by decide +kernel
theorem dX0_isTrueIn_37 : decode cX0_isTrueIn 37 = .ok (.istore_n 3, 1) := by decide +kernel
theorem dX0_isTrueIn_38 : decode cX0_isTrueIn 38 = .ok (.iinc 4 1, 3) := by decide +kernel
theorem dX0_isTrueIn_41 : decode cX0_isTrueIn 41 = .ok (.goto (-36), 3) := by decide +kernel
theorem dX0_isTrueIn_44 : decode cX0_isTrueIn 44 = .ok (.iload_n 3, 1) := by decide +kernel
theorem dX0_isTrueIn_45 : decode cX0_isTrueIn 45 = .ok (.iload_n 1, 1) := by decide +kernel
theorem dX0_isTrueIn_46 : decode cX0_isTrueIn 46 = .ok (.invokestatic 29, 3) := by decide +kernel
theorem dX0_isTrueIn_49 : decode cX0_isTrueIn 49 = .ok (.ireturn, 1) := by decide +kernel
theorem dX0_isTrue_0 : decode cX0_isTrue 0 = .ok (.aload_n 0, 1) := by decide +kernel
theorem dX0_isTrue_1 : decode cX0_isTrue 1 = .ok (.getfield 15, 3) := by decide +kernel
theorem dX0_isTrue_4 : decode cX0_isTrue 4 = .ok (.iload_n 1, 1) := by decide +kernel
theorem dX0_isTrue_5 : decode cX0_isTrue 5 = .ok (.iaload, 1) := by decide +kernel
theorem dX0_isTrue_6 : decode cX0_isTrue 6 = .ok (.istore 4, 2) := by decide +kernel
theorem dX0_isTrue_8 : decode cX0_isTrue 8 = .ok (.aload_n 0, 1) := by decide +kernel
theorem dX0_isTrue_9 : decode cX0_isTrue 9 = .ok (.getfield 18, 3) := by decide +kernel
theorem dX0_isTrue_12 : decode cX0_isTrue 12 = .ok (.iload_n 1, 1) := by decide +kernel
theorem dX0_isTrue_13 : decode cX0_isTrue 13 = .ok (.iaload, 1) := by decide +kernel
theorem dX0_isTrue_14 : decode cX0_isTrue 14 = .ok (.istore 5, 2) := by decide +kernel
theorem dX0_isTrue_16 : decode cX0_isTrue 16 = .ok (.aload_n 0, 1) := by decide +kernel
theorem dX0_isTrue_17 : decode cX0_isTrue 17 = .ok (.getfield 9, 3) := by decide +kernel
theorem dX0_isTrue_20 : decode cX0_isTrue 20 = .ok (.iload_n 1, 1) := by decide +kernel
theorem dX0_isTrue_21 : decode cX0_isTrue 21 = .ok (.iaload, 1) := by decide +kernel
theorem dX0_isTrue_22 : decode cX0_isTrue 22 = .ok (.tableswitch 124 0 4 #[34, 51, 68, 85, 100], 34) := by decide +kernel
theorem dX0_isTrue_56 : decode cX0_isTrue 56 = .ok (.iload_n 2, 1) := by decide +kernel
theorem dX0_isTrue_57 : decode cX0_isTrue 57 = .ok (.iload 4, 2) := by decide +kernel
theorem dX0_isTrue_59 : decode cX0_isTrue 59 = .ok (.invokestatic 33, 3) := by decide +kernel
theorem dX0_isTrue_62 : decode cX0_isTrue 62 = .ok (.iload 5, 2) := by decide +kernel
theorem dX0_isTrue_64 : decode cX0_isTrue 64 = .ok (.if_icmp .ne 7, 3) := by decide +kernel
theorem dX0_isTrue_67 : decode cX0_isTrue 67 = .ok (.iconst 1, 1) := by decide +kernel
theorem dX0_isTrue_68 : decode cX0_isTrue 68 = .ok (.goto 4, 3) := by decide +kernel
theorem dX0_isTrue_71 : decode cX0_isTrue 71 = .ok (.iconst 0, 1) := by decide +kernel
theorem dX0_isTrue_72 : decode cX0_isTrue 72 = .ok (.ireturn, 1) := by decide +kernel
theorem dX0_isTrue_73 : decode cX0_isTrue 73 = .ok (.iload_n 2, 1) := by decide +kernel
theorem dX0_isTrue_74 : decode cX0_isTrue 74 = .ok (.iload 4, 2) := by decide +kernel
theorem dX0_isTrue_76 : decode cX0_isTrue 76 = .ok (.invokestatic 37, 3) := by decide +kernel
theorem dX0_isTrue_79 : decode cX0_isTrue 79 = .ok (.iload 5, 2) := by decide +kernel
theorem dX0_isTrue_81 : decode cX0_isTrue 81 = .ok (.if_icmp .ne 7, 3) := by decide +kernel
theorem dX0_isTrue_84 : decode cX0_isTrue 84 = .ok (.iconst 1, 1) := by decide +kernel
theorem dX0_isTrue_85 : decode cX0_isTrue 85 = .ok (.goto 4, 3) := by decide +kernel
theorem dX0_isTrue_88 : decode cX0_isTrue 88 = .ok (.iconst 0, 1) := by decide +kernel
theorem dX0_isTrue_89 : decode cX0_isTrue 89 = .ok (.ireturn, 1) := by decide +kernel
theorem dX0_isTrue_90 : decode cX0_isTrue 90 = .ok (.iload_n 2, 1) := by decide +kernel
theorem dX0_isTrue_91 : decode cX0_isTrue 91 = .ok (.iload 4, 2) := by decide +kernel
theorem dX0_isTrue_93 : decode cX0_isTrue 93 = .ok (.invokestatic 37, 3) := by decide +kernel
theorem dX0_isTrue_96 : decode cX0_isTrue 96 = .ok (.iload 5, 2) := by decide +kernel
theorem dX0_isTrue_98 : decode cX0_isTrue 98 = .ok (.if_icmp .gt 7, 3) := by decide +kernel
theorem dX0_isTrue_101 : decode cX0_isTrue 101 = .ok (.iconst 1, 1) := by decide +kernel
theorem dX0_isTrue_102 : decode cX0_isTrue 102 = .ok (.goto 4, 3) := by decide +kernel
theorem dX0_isTrue_105 : decode cX0_isTrue 105 = .ok (.iconst 0, 1) := by decide +kernel
theorem dX0_isTrue_106 : decode cX0_isTrue 106 = .ok (.ireturn, 1) := by decide +kernel
theorem dX0_isTrue_107 : decode cX0_isTrue 107 = .ok (.iload_n 3, 1) := by decide +kernel
theorem dX0_isTrue_108 : decode cX0_isTrue 108 = .ok (.iload 4, 2) := by decide +kernel
theorem dX0_isTrue_110 : decode cX0_isTrue 110 = .ok (.invokestatic 29, 3) := by decide +kernel
theorem dX0_isTrue_113 : decode cX0_isTrue 113 = .ok (.ifCond .ne 7, 3) := by decide +kernel
theorem dX0_isTrue_116 : decode cX0_isTrue 116 = .ok (.iconst 1, 1) := by decide +kernel
theorem dX0_isTrue_117 : decode cX0_isTrue 117 = .ok (.goto 4, 3) := by decide +kernel
theorem dX0_isTrue_120 : decode cX0_isTrue 120 = .ok (.iconst 0, 1) := by decide +kernel
theorem dX0_isTrue_121 : decode cX0_isTrue 121 = .ok (.ireturn, 1) := by decide +kernel
theorem dX0_isTrue_122 : decode cX0_isTrue 122 = .ok (.iload_n 3, 1) := by decide +kernel
theorem dX0_isTrue_123 : decode cX0_isTrue 123 = .ok (.iload 4, 2) := by decide +kernel
theorem dX0_isTrue_125 : decode cX0_isTrue 125 = .ok (.invokestatic 29, 3) := by decide +kernel
theorem dX0_isTrue_128 : decode cX0_isTrue 128 = .ok (.ifCond .eq 16, 3) := by decide +kernel
theorem dX0_isTrue_131 : decode cX0_isTrue 131 = .ok (.iload_n 3, 1) := by decide +kernel
theorem dX0_isTrue_132 : decode cX0_isTrue 132 = .ok (.iload 5, 2) := by decide +kernel
theorem dX0_isTrue_134 : decode cX0_isTrue 134 = .ok (.invokestatic 29, 3) := by decide +kernel
theorem dX0_isTrue_137 : decode cX0_isTrue 137 = .ok (.ifCond .eq 7, 3) := by decide +kernel
theorem dX0_isTrue_140 : decode cX0_isTrue 140 = .ok (.iconst 1, 1) := by decide +kernel
theorem dX0_isTrue_141 : decode cX0_isTrue 141 = .ok (.goto 4, 3) := by decide +kernel
theorem dX0_isTrue_144 : decode cX0_isTrue 144 = .ok (.iconst 0, 1) := by decide +kernel
theorem dX0_isTrue_145 : decode cX0_isTrue 145 = .ok (.ireturn, 1) := by decide +kernel
theorem dX0_isTrue_146 : decode cX0_isTrue 146 = .ok (.iload_n 3, 1) := by decide +kernel
theorem dX0_isTrue_147 : decode cX0_isTrue 147 = .ok (.iload 4, 2) := by decide +kernel
theorem dX0_isTrue_149 : decode cX0_isTrue 149 = .ok (.invokestatic 29, 3) := by decide +kernel
theorem dX0_isTrue_152 : decode cX0_isTrue 152 = .ok (.ifCond .ne 12, 3) := by decide +kernel
theorem dX0_isTrue_155 : decode cX0_isTrue 155 = .ok (.iload_n 3, 1) := by decide +kernel
theorem dX0_isTrue_156 : decode cX0_isTrue 156 = .ok (.iload 5, 2) := by decide +kernel
theorem dX0_isTrue_158 : decode cX0_isTrue 158 = .ok (.invokestatic 29, 3) := by decide +kernel
theorem dX0_isTrue_161 : decode cX0_isTrue 161 = .ok (.ifCond .eq 7, 3) := by decide +kernel
theorem dX0_isTrue_164 : decode cX0_isTrue 164 = .ok (.iconst 1, 1) := by decide +kernel
theorem dX0_isTrue_165 : decode cX0_isTrue 165 = .ok (.goto 4, 3) := by decide +kernel
theorem dX0_isTrue_168 : decode cX0_isTrue 168 = .ok (.iconst 0, 1) := by decide +kernel
theorem dX0_isTrue_169 : decode cX0_isTrue 169 = .ok (.ireturn, 1) := by decide +kernel
theorem dX0_isKnown_0 : decode cX0_isKnown 0 = .ok (.iload_n 0, 1) := by decide +kernel
theorem dX0_isKnown_1 : decode cX0_isKnown 1 = .ok (.iload_n 1, 1) := by decide +kernel
theorem dX0_isKnown_2 : decode cX0_isKnown 2 = .ok (.iushr, 1) := by decide +kernel
theorem dX0_isKnown_3 : decode cX0_isKnown 3 = .ok (.iconst 1, 1) := by decide +kernel
theorem dX0_isKnown_4 : decode cX0_isKnown 4 = .ok (.iand, 1) := by decide +kernel
theorem dX0_isKnown_5 : decode cX0_isKnown 5 = .ok (.ifCond .eq 7, 3) := by decide +kernel
theorem dX0_isKnown_8 : decode cX0_isKnown 8 = .ok (.iconst 1, 1) := by decide +kernel
theorem dX0_isKnown_9 : decode cX0_isKnown 9 = .ok (.goto 4, 3) := by decide +kernel
theorem dX0_isKnown_12 : decode cX0_isKnown 12 = .ok (.iconst 0, 1) := by decide +kernel
theorem dX0_isKnown_13 : decode cX0_isKnown 13 = .ok (.ireturn, 1) := by decide +kernel
theorem dX1_init_0 : decode cX1_init 0 = .ok (.aload_n 0, 1) := by decide +kernel
theorem dX1_init_1 : decode cX1_init 1 = .ok (.invokespecial 3, 3) := by decide +kernel
theorem dX1_init_4 : decode cX1_init 4 = .ok (.aload_n 0, 1) := by decide +kernel
theorem dX1_init_5 : decode cX1_init 5 = .ok (.iload_n 1, 1) := by decide +kernel
theorem dX1_init_6 : decode cX1_init 6 = .ok (.putfield 9, 3) := by decide +kernel
theorem dX1_init_9 : decode cX1_init 9 = .ok (.aload_n 0, 1) := by decide +kernel
theorem dX1_init_10 : decode cX1_init 10 = .ok (.iload_n 2, 1) := by decide +kernel
theorem dX1_init_11 : decode cX1_init 11 = .ok (.putfield 15, 3) := by decide +kernel
theorem dX1_init_14 : decode cX1_init 14 = .ok (.aload_n 0, 1) := by decide +kernel
theorem dX1_init_15 : decode cX1_init 15 = .ok (.iload_n 3, 1) := by decide +kernel
theorem dX1_init_16 : decode cX1_init 16 = .ok (.putfield 18, 3) := by decide +kernel
theorem dX1_init_19 : decode cX1_init 19 = .ok (.aload_n 0, 1) := by decide +kernel
theorem dX1_init_20 : decode cX1_init 20 = .ok (.iload 4, 2) := by decide +kernel
theorem dX1_init_22 : decode cX1_init 22 = .ok (.putfield 21, 3) := by decide +kernel
theorem dX1_init_25 : decode cX1_init 25 = .ok (.aload_n 0, 1) := by decide +kernel
theorem dX1_init_26 : decode cX1_init 26 = .ok (.iload 5, 2) := by decide +kernel
theorem dX1_init_28 : decode cX1_init 28 = .ok (.putfield 24, 3) := by decide +kernel
theorem dX1_init_31 : decode cX1_init 31 = .ok (.return_, 1) := by decide +kernel
theorem dX1_setGuard_0 : decode cX1_setGuard 0 = .ok (.aload_n 0, 1) := by decide +kernel
theorem dX1_setGuard_1 : decode cX1_setGuard 1 = .ok (.getfield 27, 3) := by decide +kernel
theorem dX1_setGuard_4 : decode cX1_setGuard 4 = .ok (.istore 4, 2) := by decide +kernel
theorem dX1_setGuard_6 : decode cX1_setGuard 6 = .ok (.aload_n 0, 1) := by decide +kernel
theorem dX1_setGuard_7 : decode cX1_setGuard 7 = .ok (.iload_n 1, 1) := by decide +kernel
theorem dX1_setGuard_8 : decode cX1_setGuard 8 = .ok (.putfield 27, 3) := by decide +kernel
theorem dX1_setGuard_11 : decode cX1_setGuard 11 = .ok (.aload_n 0, 1) := by decide +kernel
theorem dX1_setGuard_12 : decode cX1_setGuard 12 = .ok (.iload_n 2, 1) := by decide +kernel
theorem dX1_setGuard_13 : decode cX1_setGuard 13 = .ok (.putfield 30, 3) := by decide +kernel
theorem dX1_setGuard_16 : decode cX1_setGuard 16 = .ok (.aload_n 0, 1) := by decide +kernel
theorem dX1_setGuard_17 : decode cX1_setGuard 17 = .ok (.iload_n 3, 1) := by decide +kernel
theorem dX1_setGuard_18 : decode cX1_setGuard 18 = .ok (.putfield 33, 3) := by decide +kernel
theorem dX1_setGuard_21 : decode cX1_setGuard 21 = .ok (.iload 4, 2) := by decide +kernel
theorem dX1_setGuard_23 : decode cX1_setGuard 23 = .ok (.ireturn, 1) := by decide +kernel
theorem dX1_setDeed_0 : decode cX1_setDeed 0 = .ok (.aload_n 0, 1) := by decide +kernel
theorem dX1_setDeed_1 : decode cX1_setDeed 1 = .ok (.getfield 36, 3) := by decide +kernel
theorem dX1_setDeed_4 : decode cX1_setDeed 4 = .ok (.istore 5, 2) := by decide +kernel
theorem dX1_setDeed_6 : decode cX1_setDeed 6 = .ok (.aload_n 0, 1) := by decide +kernel
theorem dX1_setDeed_7 : decode cX1_setDeed 7 = .ok (.iload_n 1, 1) := by decide +kernel
theorem dX1_setDeed_8 : decode cX1_setDeed 8 = .ok (.putfield 36, 3) := by decide +kernel
theorem dX1_setDeed_11 : decode cX1_setDeed 11 = .ok (.aload_n 0, 1) := by decide +kernel
theorem dX1_setDeed_12 : decode cX1_setDeed 12 = .ok (.iload_n 2, 1) := by decide +kernel
theorem dX1_setDeed_13 : decode cX1_setDeed 13 = .ok (.putfield 39, 3) := by decide +kernel
theorem dX1_setDeed_16 : decode cX1_setDeed 16 = .ok (.aload_n 0, 1) := by decide +kernel
theorem dX1_setDeed_17 : decode cX1_setDeed 17 = .ok (.iload_n 3, 1) := by decide +kernel
theorem dX1_setDeed_18 : decode cX1_setDeed 18 = .ok (.putfield 42, 3) := by decide +kernel
theorem dX1_setDeed_21 : decode cX1_setDeed 21 = .ok (.aload_n 0, 1) := by decide +kernel
theorem dX1_setDeed_22 : decode cX1_setDeed 22 = .ok (.iload 4, 2) := by decide +kernel
theorem dX1_setDeed_24 : decode cX1_setDeed 24 = .ok (.putfield 45, 3) := by decide +kernel
theorem dX1_setDeed_27 : decode cX1_setDeed 27 = .ok (.iload 5, 2) := by decide +kernel
theorem dX1_setDeed_29 : decode cX1_setDeed 29 = .ok (.ireturn, 1) := by decide +kernel
theorem dX1_isOpenIn_0 : decode cX1_isOpenIn 0 = .ok (.iload_n 1, 1) := by decide +kernel
theorem dX1_isOpenIn_1 : decode cX1_isOpenIn 1 = .ok (.aload_n 0, 1) := by decide +kernel
theorem dX1_isOpenIn_2 : decode cX1_isOpenIn 2 = .ok (.getfield 9, 3) := by decide +kernel
theorem dX1_isOpenIn_5 : decode cX1_isOpenIn 5 = .ok (.invokestatic 48, 3) := by decide +kernel
theorem dX1_isOpenIn_8 : decode cX1_isOpenIn 8 = .ok (.aload_n 0, 1) := by decide +kernel
theorem dX1_isOpenIn_9 : decode cX1_isOpenIn 9 = .ok (.getfield 18, 3) := by decide +kernel
theorem dX1_isOpenIn_12 : decode cX1_isOpenIn 12 = .ok (.if_icmp .ne 23, 3) := by decide +kernel
theorem dX1_isOpenIn_15 : decode cX1_isOpenIn 15 = .ok (.aload_n 0, 1) := by decide +kernel
theorem dX1_isOpenIn_16 : decode cX1_isOpenIn 16 = .ok (.iload_n 1, 1) := by decide +kernel
theorem dX1_isOpenIn_17 : decode cX1_isOpenIn 17 = .ok (.invokevirtual 52, 3) := by decide +kernel
theorem dX1_isOpenIn_20 : decode cX1_isOpenIn 20 = .ok (.ifCond .eq 15, 3) := by decide +kernel
theorem dX1_isOpenIn_23 : decode cX1_isOpenIn 23 = .ok (.aload_n 0, 1) := by decide +kernel
theorem dX1_isOpenIn_24 : decode cX1_isOpenIn 24 = .ok (.iload_n 1, 1) := by decide +kernel
theorem dX1_isOpenIn_25 : decode cX1_isOpenIn 25 = .ok (.invokevirtual 56, 3) := by decide +kernel
theorem dX1_isOpenIn_28 : decode cX1_isOpenIn 28 = .ok (.ifCond .lt 7, 3) := by decide +kernel
theorem dX1_isOpenIn_31 : decode cX1_isOpenIn 31 = .ok (.iconst 1, 1) := by decide +kernel
theorem dX1_isOpenIn_32 : decode cX1_isOpenIn 32 = .ok (.goto 4, 3) := by decide +kernel
theorem dX1_isOpenIn_35 : decode cX1_isOpenIn 35 = .ok (.iconst 0, 1) := by decide +kernel
theorem dX1_isOpenIn_36 : decode cX1_isOpenIn 36 = .ok (.ireturn, 1) := by decide +kernel
theorem dX1_guardAllows_0 : decode cX1_guardAllows 0 = .ok (.aload_n 0, 1) := by decide +kernel
theorem dX1_guardAllows_1 : decode cX1_guardAllows 1 = .ok (.getfield 27, 3) := by decide +kernel
theorem dX1_guardAllows_4 : decode cX1_guardAllows 4 = .ok (.tableswitch 116 1 4 #[32, 53, 74, 95], 32) := by decide +kernel
theorem dX1_guardAllows_36 : decode cX1_guardAllows 36 = .ok (.iload_n 1, 1) := by decide +kernel
theorem dX1_guardAllows_37 : decode cX1_guardAllows 37 = .ok (.aload_n 0, 1) := by decide +kernel
theorem dX1_guardAllows_38 : decode cX1_guardAllows 38 = .ok (.getfield 30, 3) := by decide +kernel
theorem dX1_guardAllows_41 : decode cX1_guardAllows 41 = .ok (.invokestatic 60, 3) := by decide +kernel
theorem dX1_guardAllows_44 : decode cX1_guardAllows 44 = .ok (.aload_n 0, 1) := by decide +kernel
theorem dX1_guardAllows_45 : decode cX1_guardAllows 45 = .ok (.getfield 33, 3) := by decide +kernel
theorem dX1_guardAllows_48 : decode cX1_guardAllows 48 = .ok (.if_icmp .ne 7, 3) := by decide +kernel
theorem dX1_guardAllows_51 : decode cX1_guardAllows 51 = .ok (.iconst 1, 1) := by decide +kernel
theorem dX1_guardAllows_52 : decode cX1_guardAllows 52 = .ok (.goto 4, 3) := by decide +kernel
theorem dX1_guardAllows_55 : decode cX1_guardAllows 55 = .ok (.iconst 0, 1) := by decide +kernel
theorem dX1_guardAllows_56 : decode cX1_guardAllows 56 = .ok (.ireturn, 1) := by decide +kernel
theorem dX1_guardAllows_57 : decode cX1_guardAllows 57 = .ok (.iload_n 1, 1) := by decide +kernel
theorem dX1_guardAllows_58 : decode cX1_guardAllows 58 = .ok (.aload_n 0, 1) := by decide +kernel
theorem dX1_guardAllows_59 : decode cX1_guardAllows 59 = .ok (.getfield 30, 3) := by decide +kernel
theorem dX1_guardAllows_62 : decode cX1_guardAllows 62 = .ok (.invokestatic 60, 3) := by decide +kernel
theorem dX1_guardAllows_65 : decode cX1_guardAllows 65 = .ok (.aload_n 0, 1) := by decide +kernel
theorem dX1_guardAllows_66 : decode cX1_guardAllows 66 = .ok (.getfield 33, 3) := by decide +kernel
theorem dX1_guardAllows_69 : decode cX1_guardAllows 69 = .ok (.if_icmp .eq 7, 3) := by decide +kernel
theorem dX1_guardAllows_72 : decode cX1_guardAllows 72 = .ok (.iconst 1, 1) := by decide +kernel
theorem dX1_guardAllows_73 : decode cX1_guardAllows 73 = .ok (.goto 4, 3) := by decide +kernel
theorem dX1_guardAllows_76 : decode cX1_guardAllows 76 = .ok (.iconst 0, 1) := by decide +kernel
theorem dX1_guardAllows_77 : decode cX1_guardAllows 77 = .ok (.ireturn, 1) := by decide +kernel
theorem dX1_guardAllows_78 : decode cX1_guardAllows 78 = .ok (.iload_n 1, 1) := by decide +kernel
theorem dX1_guardAllows_79 : decode cX1_guardAllows 79 = .ok (.aload_n 0, 1) := by decide +kernel
theorem dX1_guardAllows_80 : decode cX1_guardAllows 80 = .ok (.getfield 30, 3) := by decide +kernel
theorem dX1_guardAllows_83 : decode cX1_guardAllows 83 = .ok (.invokestatic 60, 3) := by decide +kernel
theorem dX1_guardAllows_86 : decode cX1_guardAllows 86 = .ok (.aload_n 0, 1) := by decide +kernel
theorem dX1_guardAllows_87 : decode cX1_guardAllows 87 = .ok (.getfield 33, 3) := by decide +kernel
theorem dX1_guardAllows_90 : decode cX1_guardAllows 90 = .ok (.if_icmp .ge 7, 3) := by decide +kernel
theorem dX1_guardAllows_93 : decode cX1_guardAllows 93 = .ok (.iconst 1, 1) := by decide +kernel
theorem dX1_guardAllows_94 : decode cX1_guardAllows 94 = .ok (.goto 4, 3) := by decide +kernel
theorem dX1_guardAllows_97 : decode cX1_guardAllows 97 = .ok (.iconst 0, 1) := by decide +kernel
theorem dX1_guardAllows_98 : decode cX1_guardAllows 98 = .ok (.ireturn, 1) := by decide +kernel
theorem dX1_guardAllows_99 : decode cX1_guardAllows 99 = .ok (.iload_n 1, 1) := by decide +kernel
theorem dX1_guardAllows_100 : decode cX1_guardAllows 100 = .ok (.aload_n 0, 1) := by decide +kernel
theorem dX1_guardAllows_101 : decode cX1_guardAllows 101 = .ok (.getfield 30, 3) := by decide +kernel
theorem dX1_guardAllows_104 : decode cX1_guardAllows 104 = .ok (.invokestatic 60, 3) := by decide +kernel
theorem dX1_guardAllows_107 : decode cX1_guardAllows 107 = .ok (.aload_n 0, 1) := by decide +kernel
theorem dX1_guardAllows_108 : decode cX1_guardAllows 108 = .ok (.getfield 33, 3) := by decide +kernel
theorem dX1_guardAllows_111 : decode cX1_guardAllows 111 = .ok (.if_icmp .le 7, 3) := by decide +kernel
theorem dX1_guardAllows_114 : decode cX1_guardAllows 114 = .ok (.iconst 1, 1) := by decide +kernel
theorem dX1_guardAllows_115 : decode cX1_guardAllows 115 = .ok (.goto 4, 3) := by decide +kernel
theorem dX1_guardAllows_118 : decode cX1_guardAllows 118 = .ok (.iconst 0, 1) := by decide +kernel
theorem dX1_guardAllows_119 : decode cX1_guardAllows 119 = .ok (.ireturn, 1) := by decide +kernel
theorem dX1_guardAllows_120 : decode cX1_guardAllows 120 = .ok (.iconst 1, 1) := by decide +kernel
theorem dX1_guardAllows_121 : decode cX1_guardAllows 121 = .ok (.ireturn, 1) := by decide +kernel
theorem dX1_afterDeed_0 : decode cX1_afterDeed 0 = .ok (.aload_n 0, 1) := by decide +kernel
theorem dX1_afterDeed_1 : decode cX1_afterDeed 1 = .ok (.getfield 36, 3) := by decide +kernel
theorem dX1_afterDeed_4 : decode cX1_afterDeed 4 = .ok (.ifCond .ne 5, 3) := by decide +kernel
theorem dX1_afterDeed_7 : decode cX1_afterDeed 7 = .ok (.iload_n 1, 1) := by decide +kernel
theorem dX1_afterDeed_8 : decode cX1_afterDeed 8 = .ok (.ireturn, 1) := by decide +kernel
theorem dX1_afterDeed_9 : decode cX1_afterDeed 9 = .ok (.aload_n 0, 1) := by decide +kernel
theorem dX1_afterDeed_10 : decode cX1_afterDeed 10 = .ok (.getfield 36, 3) := by decide +kernel
theorem dX1_afterDeed_13 : decode cX1_afterDeed 13 = .ok (.iconst 1, 1) := by decide +kernel
theorem dX1_afterDeed_14 : decode cX1_afterDeed 14 = .ok (.if_icmp .ne 10, 3) := by decide +kernel
theorem dX1_afterDeed_17 : decode cX1_afterDeed 17 = .ok (.aload_n 0, 1) := by decide +kernel
theorem dX1_afterDeed_18 : decode cX1_afterDeed 18 = .ok (.getfield 42, 3) := by decide +kernel
theorem dX1_afterDeed_21 : decode cX1_afterDeed 21 = .ok (.goto 16, 3) := by decide +kernel
theorem dX1_afterDeed_24 : decode cX1_afterDeed 24 = .ok (.iload_n 1, 1) := by decide +kernel
theorem dX1_afterDeed_25 : decode cX1_afterDeed 25 = .ok (.aload_n 0, 1) := by decide +kernel
theorem dX1_afterDeed_26 : decode cX1_afterDeed 26 = .ok (.getfield 39, 3) := by decide +kernel
theorem dX1_afterDeed_29 : decode cX1_afterDeed 29 = .ok (.invokestatic 60, 3) := by decide +kernel
theorem dX1_afterDeed_32 : decode cX1_afterDeed 32 = .ok (.aload_n 0, 1) := by decide +kernel
theorem dX1_afterDeed_33 : decode cX1_afterDeed 33 = .ok (.getfield 42, 3) := by decide +kernel
theorem dX1_afterDeed_36 : decode cX1_afterDeed 36 = .ok (.iadd, 1) := by decide +kernel
theorem dX1_afterDeed_37 : decode cX1_afterDeed 37 = .ok (.istore_n 2, 1) := by decide +kernel
theorem dX1_afterDeed_38 : decode cX1_afterDeed 38 = .ok (.iload_n 2, 1) := by decide +kernel
theorem dX1_afterDeed_39 : decode cX1_afterDeed 39 = .ok (.iconst 0, 1) := by decide +kernel
theorem dX1_afterDeed_40 : decode cX1_afterDeed 40 = .ok (.aload_n 0, 1) := by decide +kernel
theorem dX1_afterDeed_41 : decode cX1_afterDeed 41 = .ok (.getfield 45, 3) := by decide +kernel
theorem dX1_afterDeed_44 : decode cX1_afterDeed 44 = .ok (.invokestatic 63, 3) := by decide +kernel
theorem dX1_afterDeed_47 : decode cX1_afterDeed 47 = .ok (.ifCond .eq 15, 3) := by decide +kernel
theorem dX1_afterDeed_50 : decode cX1_afterDeed 50 = .ok (.iload_n 1, 1) := by decide +kernel
theorem dX1_afterDeed_51 : decode cX1_afterDeed 51 = .ok (.aload_n 0, 1) := by decide +kernel
theorem dX1_afterDeed_52 : decode cX1_afterDeed 52 = .ok (.getfield 39, 3) := by decide +kernel
theorem dX1_afterDeed_55 : decode cX1_afterDeed 55 = .ok (.iload_n 2, 1) := by decide +kernel
theorem dX1_afterDeed_56 : decode cX1_afterDeed 56 = .ok (.invokestatic 67, 3) := by decide +kernel
theorem dX1_afterDeed_59 : decode cX1_afterDeed 59 = .ok (.goto 4, 3) := by decide +kernel
theorem dX1_afterDeed_62 : decode cX1_afterDeed 62 = .ok (.iconst (-1), 1) := by decide +kernel
theorem dX1_afterDeed_63 : decode cX1_afterDeed 63 = .ok (.ireturn, 1) := by decide +kernel
theorem dX1_afterGoing_0 : decode cX1_afterGoing 0 = .ok (.iload_n 1, 1) := by decide +kernel
theorem dX1_afterGoing_1 : decode cX1_afterGoing 1 = .ok (.aload_n 0, 1) := by decide +kernel
theorem dX1_afterGoing_2 : decode cX1_afterGoing 2 = .ok (.getfield 9, 3) := by decide +kernel
theorem dX1_afterGoing_5 : decode cX1_afterGoing 5 = .ok (.aload_n 0, 1) := by decide +kernel
theorem dX1_afterGoing_6 : decode cX1_afterGoing 6 = .ok (.getfield 21, 3) := by decide +kernel
theorem dX1_afterGoing_9 : decode cX1_afterGoing 9 = .ok (.invokestatic 71, 3) := by decide +kernel
theorem dX1_afterGoing_12 : decode cX1_afterGoing 12 = .ok (.ireturn, 1) := by decide +kernel
theorem dX2_init_0 : decode cX2_init 0 = .ok (.aload_n 0, 1) := by decide +kernel
theorem dX2_init_1 : decode cX2_init 1 = .ok (.invokespecial 3, 3) := by decide +kernel
theorem dX2_init_4 : decode cX2_init 4 = .ok (.aload_n 0, 1) := by decide +kernel
theorem dX2_init_5 : decode cX2_init 5 = .ok (.iconst 5, 1) := by decide +kernel
theorem dX2_init_6 : decode cX2_init 6 = .ok (.newarray .int, 2) := by decide +kernel
theorem dX2_init_8 : decode cX2_init 8 = .ok (.putfield 9, 3) := by decide +kernel
theorem dX2_init_11 : decode cX2_init 11 = .ok (.aload_n 0, 1) := by decide +kernel
theorem dX2_init_12 : decode cX2_init 12 = .ok (.iconst 5, 1) := by decide +kernel
theorem dX2_init_13 : decode cX2_init 13 = .ok (.newarray .int, 2) := by decide +kernel
theorem dX2_init_15 : decode cX2_init 15 = .ok (.putfield 15, 3) := by decide +kernel
theorem dX2_init_18 : decode cX2_init 18 = .ok (.aload_n 0, 1) := by decide +kernel
theorem dX2_init_19 : decode cX2_init 19 = .ok (.bipush 80, 2) := by decide +kernel
theorem dX2_init_21 : decode cX2_init 21 = .ok (.anewarray 18, 3) := by decide +kernel
theorem dX2_init_24 : decode cX2_init 24 = .ok (.putfield 20, 3) := by decide +kernel
theorem dX2_init_27 : decode cX2_init 27 = .ok (.aload_n 0, 1) := by decide +kernel
theorem dX2_init_28 : decode cX2_init 28 = .ok (.iconst 4, 1) := by decide +kernel
theorem dX2_init_29 : decode cX2_init 29 = .ok (.newarray .int, 2) := by decide +kernel
theorem dX2_init_31 : decode cX2_init 31 = .ok (.putfield 24, 3) := by decide +kernel
theorem dX2_init_34 : decode cX2_init 34 = .ok (.aload_n 0, 1) := by decide +kernel
theorem dX2_init_35 : decode cX2_init 35 = .ok (.iconst 4, 1) := by decide +kernel
theorem dX2_init_36 : decode cX2_init 36 = .ok (.newarray .int, 2) := by decide +kernel
theorem dX2_init_38 : decode cX2_init 38 = .ok (.putfield 27, 3) := by decide +kernel
theorem dX2_init_41 : decode cX2_init 41 = .ok (.return_, 1) := by decide +kernel
theorem dX2_hasProcess_0 : decode cX2_hasProcess 0 = .ok (.iload_n 1, 1) := by decide +kernel
theorem dX2_hasProcess_1 : decode cX2_hasProcess 1 = .ok (.ifCond .lt 15, 3) := by decide +kernel
theorem dX2_hasProcess_4 : decode cX2_hasProcess 4 = .ok (.iload_n 1, 1) := by decide +kernel
theorem dX2_hasProcess_5 : decode cX2_hasProcess 5 = .ok (.aload_n 0, 1) := by decide +kernel
theorem dX2_hasProcess_6 : decode cX2_hasProcess 6 = .ok (.getfield 30, 3) := by decide +kernel
theorem dX2_hasProcess_9 : decode cX2_hasProcess 9 = .ok (.if_icmp .ge 7, 3) := by decide +kernel
theorem dX2_hasProcess_12 : decode cX2_hasProcess 12 = .ok (.iconst 1, 1) := by decide +kernel
theorem dX2_hasProcess_13 : decode cX2_hasProcess 13 = .ok (.goto 4, 3) := by decide +kernel
theorem dX2_hasProcess_16 : decode cX2_hasProcess 16 = .ok (.iconst 0, 1) := by decide +kernel
theorem dX2_hasProcess_17 : decode cX2_hasProcess 17 = .ok (.ireturn, 1) := by decide +kernel
theorem dX2_hasLocation_0 : decode cX2_hasLocation 0 = .ok (.aload_n 0, 1) := by decide +kernel
theorem dX2_hasLocation_1 : decode cX2_hasLocation 1 = .ok (.iload_n 1, 1) := by decide +kernel
theorem dX2_hasLocation_2 : decode cX2_hasLocation 2 = .ok (.invokevirtual 34, 3) := by decide +kernel
theorem dX2_hasLocation_5 : decode cX2_hasLocation 5 = .ok (.ifCond .eq 21, 3) := by decide +kernel
theorem dX2_hasLocation_8 : decode cX2_hasLocation 8 = .ok (.iload_n 2, 1) := by decide +kernel
theorem dX2_hasLocation_9 : decode cX2_hasLocation 9 = .ok (.ifCond .lt 17, 3) := by decide +kernel
theorem dX2_hasLocation_12 : decode cX2_hasLocation 12 = .ok (.iload_n 2, 1) := by decide +kernel
theorem dX2_hasLocation_13 : decode cX2_hasLocation 13 = .ok (.aload_n 0, 1) := by decide +kernel
theorem dX2_hasLocation_14 : decode cX2_hasLocation 14 = .ok (.getfield 9, 3) := by decide +kernel
theorem dX2_hasLocation_17 : decode cX2_hasLocation 17 = .ok (.iload_n 1, 1) := by decide +kernel
theorem dX2_hasLocation_18 : decode cX2_hasLocation 18 = .ok (.iaload, 1) := by decide +kernel
theorem dX2_hasLocation_19 : decode cX2_hasLocation 19 = .ok (.if_icmp .ge 7, 3) := by decide +kernel
theorem dX2_hasLocation_22 : decode cX2_hasLocation 22 = .ok (.iconst 1, 1) := by decide +kernel
theorem dX2_hasLocation_23 : decode cX2_hasLocation 23 = .ok (.goto 4, 3) := by decide +kernel
theorem dX2_hasLocation_26 : decode cX2_hasLocation 26 = .ok (.iconst 0, 1) := by decide +kernel
theorem dX2_hasLocation_27 : decode cX2_hasLocation 27 = .ok (.ireturn, 1) := by decide +kernel
theorem dX2_hasVariable_0 : decode cX2_hasVariable 0 = .ok (.iload_n 1, 1) := by decide +kernel
theorem dX2_hasVariable_1 : decode cX2_hasVariable 1 = .ok (.ifCond .lt 15, 3) := by decide +kernel
theorem dX2_hasVariable_4 : decode cX2_hasVariable 4 = .ok (.iload_n 1, 1) := by decide +kernel
theorem dX2_hasVariable_5 : decode cX2_hasVariable 5 = .ok (.aload_n 0, 1) := by decide +kernel
theorem dX2_hasVariable_6 : decode cX2_hasVariable 6 = .ok (.getfield 38, 3) := by decide +kernel
theorem dX2_hasVariable_9 : decode cX2_hasVariable 9 = .ok (.if_icmp .ge 7, 3) := by decide +kernel
theorem dX2_hasVariable_12 : decode cX2_hasVariable 12 = .ok (.iconst 1, 1) := by decide +kernel
theorem dX2_hasVariable_13 : decode cX2_hasVariable 13 = .ok (.goto 4, 3) := by decide +kernel
theorem dX2_hasVariable_16 : decode cX2_hasVariable 16 = .ok (.iconst 0, 1) := by decide +kernel
theorem dX2_hasVariable_17 : decode cX2_hasVariable 17 = .ok (.ireturn, 1) := by decide +kernel
theorem dX2_greatestOf_0 : decode cX2_greatestOf 0 = .ok (.aload_n 0, 1) := by decide +kernel
theorem dX2_greatestOf_1 : decode cX2_greatestOf 1 = .ok (.iload_n 1, 1) := by decide +kernel
theorem dX2_greatestOf_2 : decode cX2_greatestOf 2 = .ok (.invokevirtual 41, 3) := by decide +kernel
theorem dX2_greatestOf_5 : decode cX2_greatestOf 5 = .ok (.ifCond .eq 12, 3) := by decide +kernel
theorem dX2_greatestOf_8 : decode cX2_greatestOf 8 = .ok (.aload_n 0, 1) := by decide +kernel
theorem dX2_greatestOf_9 : decode cX2_greatestOf 9 = .ok (.getfield 24, 3) := by decide +kernel
theorem dX2_greatestOf_12 : decode cX2_greatestOf 12 = .ok (.iload_n 1, 1) := by decide +kernel
theorem dX2_greatestOf_13 : decode cX2_greatestOf 13 = .ok (.iaload, 1) := by decide +kernel
theorem dX2_greatestOf_14 : decode cX2_greatestOf 14 = .ok (.goto 4, 3) := by decide +kernel
theorem dX2_greatestOf_17 : decode cX2_greatestOf 17 = .ok (.iconst 0, 1) := by decide +kernel
theorem dX2_greatestOf_18 : decode cX2_greatestOf 18 = .ok (.ireturn, 1) := by decide +kernel
theorem dX2_movesOf_0 : decode cX2_movesOf 0 = .ok (.aload_n 0, 1) := by decide +kernel
theorem dX2_movesOf_1 : decode cX2_movesOf 1 = .ok (.iload_n 1, 1) := by decide +kernel
theorem dX2_movesOf_2 : decode cX2_movesOf 2 = .ok (.invokevirtual 34, 3) := by decide +kernel
theorem dX2_movesOf_5 : decode cX2_movesOf 5 = .ok (.ifCond .eq 12, 3) := by decide +kernel
theorem dX2_movesOf_8 : decode cX2_movesOf 8 = .ok (.aload_n 0, 1) := by decide +kernel
theorem dX2_movesOf_9 : decode cX2_movesOf 9 = .ok (.getfield 15, 3) := by decide +kernel
theorem dX2_movesOf_12 : decode cX2_movesOf 12 = .ok (.iload_n 1, 1) := by decide +kernel
theorem dX2_movesOf_13 : decode cX2_movesOf 13 = .ok (.iaload, 1) := by decide +kernel
theorem dX2_movesOf_14 : decode cX2_movesOf 14 = .ok (.goto 4, 3) := by decide +kernel
theorem dX2_movesOf_17 : decode cX2_movesOf 17 = .ok (.iconst 0, 1) := by decide +kernel
theorem dX2_movesOf_18 : decode cX2_movesOf 18 = .ok (.ireturn, 1) := by decide +kernel
theorem dX2_find_0 : decode cX2_find 0 = .ok (.iload_n 2, 1) := by decide +kernel
theorem dX2_find_1 : decode cX2_find 1 = .ok (.ifCond .lt 12, 3) := by decide +kernel
theorem dX2_find_4 : decode cX2_find 4 = .ok (.iload_n 2, 1) := by decide +kernel
theorem dX2_find_5 : decode cX2_find 5 = .ok (.aload_n 0, 1) := by decide +kernel
theorem dX2_find_6 : decode cX2_find 6 = .ok (.iload_n 1, 1) := by decide +kernel
theorem dX2_find_7 : decode cX2_find 7 = .ok (.invokevirtual 44, 3) := by decide +kernel
theorem dX2_find_10 : decode cX2_find 10 = .ok (.if_icmp .lt 5, 3) := by decide +kernel
theorem dX2_find_13 : decode cX2_find 13 = .ok (.aconst_null, 1) := by decide +kernel
theorem dX2_find_14 : decode cX2_find 14 = .ok (.areturn, 1) := by decide +kernel
theorem dX2_find_15 : decode cX2_find 15 = .ok (.aload_n 0, 1) := by decide +kernel
theorem dX2_find_16 : decode cX2_find 16 = .ok (.getfield 20, 3) := by decide +kernel
theorem dX2_find_19 : decode cX2_find 19 = .ok (.iload_n 1, 1) := by decide +kernel
theorem dX2_find_20 : decode cX2_find 20 = .ok (.bipush 16, 2) := by decide +kernel
theorem dX2_find_22 : decode cX2_find 22 = .ok (.imul, 1) := by decide +kernel
theorem dX2_find_23 : decode cX2_find 23 = .ok (.iload_n 2, 1) := by decide +kernel
theorem dX2_find_24 : decode cX2_find 24 = .ok (.iadd, 1) := by decide +kernel
theorem dX2_find_25 : decode cX2_find 25 = .ok (.aaload, 1) := by decide +kernel
theorem dX2_find_26 : decode cX2_find 26 = .ok (.areturn, 1) := by decide +kernel
theorem dX2_newProcess_0 : decode cX2_newProcess 0 = .ok (.aload_n 0, 1) := by decide +kernel
theorem dX2_newProcess_1 : decode cX2_newProcess 1 = .ok (.getfield 9, 3) := by decide +kernel
theorem dX2_newProcess_4 : decode cX2_newProcess 4 = .ok (.aload_n 0, 1) := by decide +kernel
theorem dX2_newProcess_5 : decode cX2_newProcess 5 = .ok (.getfield 30, 3) := by decide +kernel
theorem dX2_newProcess_8 : decode cX2_newProcess 8 = .ok (.iload_n 1, 1) := by decide +kernel
theorem dX2_newProcess_9 : decode cX2_newProcess 9 = .ok (.iastore, 1) := by decide +kernel
theorem dX2_newProcess_10 : decode cX2_newProcess 10 = .ok (.aload_n 0, 1) := by decide +kernel
theorem dX2_newProcess_11 : decode cX2_newProcess 11 = .ok (.dup, 1) := by decide +kernel
theorem dX2_newProcess_12 : decode cX2_newProcess 12 = .ok (.getfield 30, 3) := by decide +kernel
theorem dX2_newProcess_15 : decode cX2_newProcess 15 = .ok (.iconst 1, 1) := by decide +kernel
theorem dX2_newProcess_16 : decode cX2_newProcess 16 = .ok (.iadd, 1) := by decide +kernel
theorem dX2_newProcess_17 : decode cX2_newProcess 17 = .ok (.putfield 30, 3) := by decide +kernel
theorem dX2_newProcess_20 : decode cX2_newProcess 20 = .ok (.aload_n 0, 1) := by decide +kernel
theorem dX2_newProcess_21 : decode cX2_newProcess 21 = .ok (.getfield 30, 3) := by decide +kernel
theorem dX2_newProcess_24 : decode cX2_newProcess 24 = .ok (.iconst 1, 1) := by decide +kernel
theorem dX2_newProcess_25 : decode cX2_newProcess 25 = .ok (.isub, 1) := by decide +kernel
theorem dX2_newProcess_26 : decode cX2_newProcess 26 = .ok (.ireturn, 1) := by decide +kernel
theorem dX2_newVariable_0 : decode cX2_newVariable 0 = .ok (.aload_n 0, 1) := by decide +kernel
theorem dX2_newVariable_1 : decode cX2_newVariable 1 = .ok (.getfield 24, 3) := by decide +kernel
theorem dX2_newVariable_4 : decode cX2_newVariable 4 = .ok (.aload_n 0, 1) := by decide +kernel
theorem dX2_newVariable_5 : decode cX2_newVariable 5 = .ok (.getfield 38, 3) := by decide +kernel
theorem dX2_newVariable_8 : decode cX2_newVariable 8 = .ok (.iload_n 1, 1) := by decide +kernel
theorem dX2_newVariable_9 : decode cX2_newVariable 9 = .ok (.iastore, 1) := by decide +kernel
theorem dX2_newVariable_10 : decode cX2_newVariable 10 = .ok (.aload_n 0, 1) := by decide +kernel
theorem dX2_newVariable_11 : decode cX2_newVariable 11 = .ok (.getfield 27, 3) := by decide +kernel
theorem dX2_newVariable_14 : decode cX2_newVariable 14 = .ok (.aload_n 0, 1) := by decide +kernel
theorem dX2_newVariable_15 : decode cX2_newVariable 15 = .ok (.getfield 38, 3) := by decide +kernel
theorem dX2_newVariable_18 : decode cX2_newVariable 18 = .ok (.iload_n 2, 1) := by decide +kernel
theorem dX2_newVariable_19 : decode cX2_newVariable 19 = .ok (.iastore, 1) := by decide +kernel
theorem dX2_newVariable_20 : decode cX2_newVariable 20 = .ok (.aload_n 0, 1) := by decide +kernel
theorem dX2_newVariable_21 : decode cX2_newVariable 21 = .ok (.dup, 1) := by decide +kernel
theorem dX2_newVariable_22 : decode cX2_newVariable 22 = .ok (.getfield 38, 3) := by decide +kernel
theorem dX2_newVariable_25 : decode cX2_newVariable 25 = .ok (.iconst 1, 1) := by decide +kernel
theorem dX2_newVariable_26 : decode cX2_newVariable 26 = .ok (.iadd, 1) := by decide +kernel
theorem dX2_newVariable_27 : decode cX2_newVariable 27 = .ok (.putfield 38, 3) := by decide +kernel
theorem dX2_newVariable_30 : decode cX2_newVariable 30 = .ok (.aload_n 0, 1) := by decide +kernel
theorem dX2_newVariable_31 : decode cX2_newVariable 31 = .ok (.getfield 38, 3) := by decide +kernel
theorem dX2_newVariable_34 : decode cX2_newVariable 34 = .ok (.iconst 1, 1) := by decide +kernel
theorem dX2_newVariable_35 : decode cX2_newVariable 35 = .ok (.isub, 1) := by decide +kernel
theorem dX2_newVariable_36 : decode cX2_newVariable 36 = .ok (.ireturn, 1) := by decide +kernel
theorem dX2_newMove_0 : decode cX2_newMove 0 = .ok (.aload_n 0, 1) := by decide +kernel
theorem dX2_newMove_1 : decode cX2_newMove 1 = .ok (.getfield 15, 3) := by decide +kernel
theorem dX2_newMove_4 : decode cX2_newMove 4 = .ok (.iload_n 1, 1) := by decide +kernel
theorem dX2_newMove_5 : decode cX2_newMove 5 = .ok (.iaload, 1) := by decide +kernel
theorem dX2_newMove_6 : decode cX2_newMove 6 = .ok (.istore 5, 2) := by decide +kernel
theorem dX2_newMove_8 : decode cX2_newMove 8 = .ok (.aload_n 0, 1) := by decide +kernel
theorem dX2_newMove_9 : decode cX2_newMove 9 = .ok (.getfield 20, 3) := by decide +kernel
theorem dX2_newMove_12 : decode cX2_newMove 12 = .ok (.iload_n 1, 1) := by decide +kernel
theorem dX2_newMove_13 : decode cX2_newMove 13 = .ok (.bipush 16, 2) := by decide +kernel
theorem dX2_newMove_15 : decode cX2_newMove 15 = .ok (.imul, 1) := by decide +kernel
theorem dX2_newMove_16 : decode cX2_newMove 16 = .ok (.iload 5, 2) := by decide +kernel
theorem dX2_newMove_18 : decode cX2_newMove 18 = .ok (.iadd, 1) := by decide +kernel
theorem dX2_newMove_19 : decode cX2_newMove 19 = .ok (.new 18, 3) := by decide +kernel
theorem dX2_newMove_22 : decode cX2_newMove 22 = .ok (.dup, 1) := by decide +kernel
theorem dX2_newMove_23 : decode cX2_newMove 23 = .ok (.iload_n 1, 1) := by decide +kernel
theorem dX2_newMove_24 : decode cX2_newMove 24 = .ok (.iload 5, 2) := by decide +kernel
theorem dX2_newMove_26 : decode cX2_newMove 26 = .ok (.iload_n 2, 1) := by decide +kernel
theorem dX2_newMove_27 : decode cX2_newMove 27 = .ok (.iload_n 3, 1) := by decide +kernel
theorem dX2_newMove_28 : decode cX2_newMove 28 = .ok (.iload 4, 2) := by decide +kernel
theorem dX2_newMove_30 : decode cX2_newMove 30 = .ok (.invokespecial 48, 3) := by decide +kernel
theorem dX2_newMove_33 : decode cX2_newMove 33 = .ok (.aastore, 1) := by decide +kernel
theorem dX2_newMove_34 : decode cX2_newMove 34 = .ok (.aload_n 0, 1) := by decide +kernel
theorem dX2_newMove_35 : decode cX2_newMove 35 = .ok (.getfield 15, 3) := by decide +kernel
theorem dX2_newMove_38 : decode cX2_newMove 38 = .ok (.iload_n 1, 1) := by decide +kernel
theorem dX2_newMove_39 : decode cX2_newMove 39 = .ok (.iload 5, 2) := by decide +kernel
theorem dX2_newMove_41 : decode cX2_newMove 41 = .ok (.iconst 1, 1) := by decide +kernel
theorem dX2_newMove_42 : decode cX2_newMove 42 = .ok (.iadd, 1) := by decide +kernel
theorem dX2_newMove_43 : decode cX2_newMove 43 = .ok (.iastore, 1) := by decide +kernel
theorem dX2_newMove_44 : decode cX2_newMove 44 = .ok (.iload 5, 2) := by decide +kernel
theorem dX2_newMove_46 : decode cX2_newMove 46 = .ok (.ireturn, 1) := by decide +kernel
theorem dX2_keyAtBeginning_0 : decode cX2_keyAtBeginning 0 = .ok (.iconst 0, 1) := by decide +kernel
theorem dX2_keyAtBeginning_1 : decode cX2_keyAtBeginning 1 = .ok (.istore_n 1, 1) := by decide +kernel
theorem dX2_keyAtBeginning_2 : decode cX2_keyAtBeginning 2 = .ok (.iconst 0, 1) := by decide +kernel
theorem dX2_keyAtBeginning_3 : decode cX2_keyAtBeginning 3 = .ok (.istore_n 2, 1) := by decide +kernel
theorem dX2_keyAtBeginning_4 : decode cX2_keyAtBeginning 4 = .ok (.iload_n 2, 1) := by decide +kernel
theorem dX2_keyAtBeginning_5 : decode cX2_keyAtBeginning 5 = .ok (.aload_n 0, 1) := by decide +kernel
theorem dX2_keyAtBeginning_6 : decode cX2_keyAtBeginning 6 = .ok (.getfield 38, 3) := by decide +kernel
theorem dX2_keyAtBeginning_9 : decode cX2_keyAtBeginning 9 = .ok (.if_icmp .ge 21, 3) := by decide +kernel
theorem dX2_keyAtBeginning_12 : decode cX2_keyAtBeginning 12 = .ok (.iload_n 1, 1) := by decide +kernel
theorem dX2_keyAtBeginning_13 : decode cX2_keyAtBeginning 13 = .ok (.iload_n 2, 1) := by decide +kernel
theorem dX2_keyAtBeginning_14 : decode cX2_keyAtBeginning 14 = .ok (.aload_n 0, 1) := by decide +kernel
theorem dX2_keyAtBeginning_15 : decode cX2_keyAtBeginning 15 = .ok (.getfield 27, 3) := by decide +kernel
theorem dX2_keyAtBeginning_18 : decode cX2_keyAtBeginning 18 = .ok (.iload_n 2, 1) := by decide +kernel
theorem dX2_keyAtBeginning_19 : decode cX2_keyAtBeginning 19 = .ok (.iaload, 1) := by decide +kernel
theorem dX2_keyAtBeginning_20 : decode cX2_keyAtBeginning 20 = .ok (.invokestatic 51, 3) := by decide +kernel
theorem dX2_keyAtBeginning_23 : decode cX2_keyAtBeginning 23 = .ok (.istore_n 1, 1) := by decide +kernel
theorem dX2_keyAtBeginning_24 : decode cX2_keyAtBeginning 24 = .ok (.iinc 2 1, 3) := by decide +kernel
theorem dX2_keyAtBeginning_27 : decode cX2_keyAtBeginning 27 = .ok (.goto (-23), 3) := by decide +kernel
theorem dX2_keyAtBeginning_30 : decode cX2_keyAtBeginning 30 = .ok (.iload_n 1, 1) := by decide +kernel
theorem dX2_keyAtBeginning_31 : decode cX2_keyAtBeginning 31 = .ok (.ireturn, 1) := by decide +kernel
theorem dX3_init_0 : decode cX3_init 0 = .ok (.aload_n 0, 1) := by decide +kernel
theorem dX3_init_1 : decode cX3_init 1 = .ok (.invokespecial 5, 3) := by decide +kernel
theorem dX3_init_4 : decode cX3_init 4 = .ok (.aload_n 0, 1) := by decide +kernel
theorem dX3_init_5 : decode cX3_init 5 = .ok (.sipush 400, 3) := by decide +kernel
theorem dX3_init_8 : decode cX3_init 8 = .ok (.newarray .int, 2) := by decide +kernel
theorem dX3_init_10 : decode cX3_init 10 = .ok (.putfield 11, 3) := by decide +kernel
theorem dX3_init_13 : decode cX3_init 13 = .ok (.aload_n 0, 1) := by decide +kernel
theorem dX3_init_14 : decode cX3_init 14 = .ok (.sipush 400, 3) := by decide +kernel
theorem dX3_init_17 : decode cX3_init 17 = .ok (.newarray .int, 2) := by decide +kernel
theorem dX3_init_19 : decode cX3_init 19 = .ok (.putfield 15, 3) := by decide +kernel
theorem dX3_init_22 : decode cX3_init 22 = .ok (.aload_n 0, 1) := by decide +kernel
theorem dX3_init_23 : decode cX3_init 23 = .ok (.sipush 400, 3) := by decide +kernel
theorem dX3_init_26 : decode cX3_init 26 = .ok (.newarray .int, 2) := by decide +kernel
theorem dX3_init_28 : decode cX3_init 28 = .ok (.putfield 18, 3) := by decide +kernel
theorem dX3_init_31 : decode cX3_init 31 = .ok (.aload_n 0, 1) := by decide +kernel
theorem dX3_init_32 : decode cX3_init 32 = .ok (.sipush 400, 3) := by decide +kernel
theorem dX3_init_35 : decode cX3_init 35 = .ok (.newarray .int, 2) := by decide +kernel
theorem dX3_init_37 : decode cX3_init 37 = .ok (.putfield 21, 3) := by decide +kernel
theorem dX3_init_40 : decode cX3_init 40 = .ok (.aload_n 0, 1) := by decide +kernel
theorem dX3_init_41 : decode cX3_init 41 = .ok (.sipush 400, 3) := by decide +kernel
theorem dX3_init_44 : decode cX3_init 44 = .ok (.newarray .int, 2) := by decide +kernel
theorem dX3_init_46 : decode cX3_init 46 = .ok (.putfield 24, 3) := by decide +kernel
theorem dX3_init_49 : decode cX3_init 49 = .ok (.aload_n 0, 1) := by decide +kernel
theorem dX3_init_50 : decode cX3_init 50 = .ok (.sipush 401, 3) := by decide +kernel
theorem dX3_init_53 : decode cX3_init 53 = .ok (.newarray .int, 2) := by decide +kernel
theorem dX3_init_55 : decode cX3_init 55 = .ok (.putfield 27, 3) := by decide +kernel
theorem dX3_init_58 : decode cX3_init 58 = .ok (.aload_n 0, 1) := by decide +kernel
theorem dX3_init_59 : decode cX3_init 59 = .ok (.sipush 1024, 3) := by decide +kernel
theorem dX3_init_62 : decode cX3_init 62 = .ok (.newarray .int, 2) := by decide +kernel
theorem dX3_init_64 : decode cX3_init 64 = .ok (.putfield 30, 3) := by decide +kernel
theorem dX3_init_67 : decode cX3_init 67 = .ok (.aload_n 0, 1) := by decide +kernel
theorem dX3_init_68 : decode cX3_init 68 = .ok (.sipush 2048, 3) := by decide +kernel
theorem dX3_init_71 : decode cX3_init 71 = .ok (.newarray .int, 2) := by decide +kernel
theorem dX3_init_73 : decode cX3_init 73 = .ok (.putfield 33, 3) := by decide +kernel
theorem dX3_init_76 : decode cX3_init 76 = .ok (.return_, 1) := by decide +kernel
theorem dX3_isExplored_0 : decode cX3_isExplored 0 = .ok (.aload_n 0, 1) := by decide +kernel
theorem dX3_isExplored_1 : decode cX3_isExplored 1 = .ok (.getfield 36, 3) := by decide +kernel
theorem dX3_isExplored_4 : decode cX3_isExplored 4 = .ok (.ifCond .le 7, 3) := by decide +kernel
theorem dX3_isExplored_7 : decode cX3_isExplored 7 = .ok (.iconst 1, 1) := by decide +kernel
theorem dX3_isExplored_8 : decode cX3_isExplored 8 = .ok (.goto 4, 3) := by decide +kernel
theorem dX3_isExplored_11 : decode cX3_isExplored 11 = .ok (.iconst 0, 1) := by decide +kernel
theorem dX3_isExplored_12 : decode cX3_isExplored 12 = .ok (.ireturn, 1) := by decide +kernel
theorem dX3_hasState_0 : decode cX3_hasState 0 = .ok (.iload_n 1, 1) := by decide +kernel
theorem dX3_hasState_1 : decode cX3_hasState 1 = .ok (.ifCond .lt 15, 3) := by decide +kernel
theorem dX3_hasState_4 : decode cX3_hasState 4 = .ok (.iload_n 1, 1) := by decide +kernel
theorem dX3_hasState_5 : decode cX3_hasState 5 = .ok (.aload_n 0, 1) := by decide +kernel
theorem dX3_hasState_6 : decode cX3_hasState 6 = .ok (.getfield 36, 3) := by decide +kernel
theorem dX3_hasState_9 : decode cX3_hasState 9 = .ok (.if_icmp .ge 7, 3) := by decide +kernel
theorem dX3_hasState_12 : decode cX3_hasState 12 = .ok (.iconst 1, 1) := by decide +kernel
theorem dX3_hasState_13 : decode cX3_hasState 13 = .ok (.goto 4, 3) := by decide +kernel
theorem dX3_hasState_16 : decode cX3_hasState 16 = .ok (.iconst 0, 1) := by decide +kernel
theorem dX3_hasState_17 : decode cX3_hasState 17 = .ok (.ireturn, 1) := by decide +kernel
theorem dX3_keyOf_0 : decode cX3_keyOf 0 = .ok (.aload_n 0, 1) := by decide +kernel
theorem dX3_keyOf_1 : decode cX3_keyOf 1 = .ok (.getfield 11, 3) := by decide +kernel
theorem dX3_keyOf_4 : decode cX3_keyOf 4 = .ok (.iload_n 1, 1) := by decide +kernel
theorem dX3_keyOf_5 : decode cX3_keyOf 5 = .ok (.iaload, 1) := by decide +kernel
theorem dX3_keyOf_6 : decode cX3_keyOf 6 = .ok (.ireturn, 1) := by decide +kernel
theorem dX3_depthOf_0 : decode cX3_depthOf 0 = .ok (.aload_n 0, 1) := by decide +kernel
theorem dX3_depthOf_1 : decode cX3_depthOf 1 = .ok (.getfield 15, 3) := by decide +kernel
theorem dX3_depthOf_4 : decode cX3_depthOf 4 = .ok (.iload_n 1, 1) := by decide +kernel
theorem dX3_depthOf_5 : decode cX3_depthOf 5 = .ok (.iaload, 1) := by decide +kernel
theorem dX3_depthOf_6 : decode cX3_depthOf 6 = .ok (.ireturn, 1) := by decide +kernel
theorem dX3_parentOf_0 : decode cX3_parentOf 0 = .ok (.aload_n 0, 1) := by decide +kernel
theorem dX3_parentOf_1 : decode cX3_parentOf 1 = .ok (.getfield 18, 3) := by decide +kernel
theorem dX3_parentOf_4 : decode cX3_parentOf 4 = .ok (.iload_n 1, 1) := by decide +kernel
theorem dX3_parentOf_5 : decode cX3_parentOf 5 = .ok (.iaload, 1) := by decide +kernel
theorem dX3_parentOf_6 : decode cX3_parentOf 6 = .ok (.ireturn, 1) := by decide +kernel
theorem dX3_parentStepOf_0 : decode cX3_parentStepOf 0 = .ok (.aload_n 0, 1) := by decide +kernel
theorem dX3_parentStepOf_1 : decode cX3_parentStepOf 1 = .ok (.getfield 21, 3) := by decide +kernel
theorem dX3_parentStepOf_4 : decode cX3_parentStepOf 4 = .ok (.iload_n 1, 1) := by decide +kernel
theorem dX3_parentStepOf_5 : decode cX3_parentStepOf 5 = .ok (.iaload, 1) := by decide +kernel
theorem dX3_parentStepOf_6 : decode cX3_parentStepOf 6 = .ok (.ireturn, 1) := by decide +kernel
theorem dX3_stepsOf_0 : decode cX3_stepsOf 0 = .ok (.aload_n 0, 1) := by decide +kernel
theorem dX3_stepsOf_1 : decode cX3_stepsOf 1 = .ok (.getfield 27, 3) := by decide +kernel
theorem dX3_stepsOf_4 : decode cX3_stepsOf 4 = .ok (.iload_n 1, 1) := by decide +kernel
theorem dX3_stepsOf_5 : decode cX3_stepsOf 5 = .ok (.iconst 1, 1) := by decide +kernel
theorem dX3_stepsOf_6 : decode cX3_stepsOf 6 = .ok (.iadd, 1) := by decide +kernel
theorem dX3_stepsOf_7 : decode cX3_stepsOf 7 = .ok (.iaload, 1) := by decide +kernel
theorem dX3_stepsOf_8 : decode cX3_stepsOf 8 = .ok (.aload_n 0, 1) := by decide +kernel
theorem dX3_stepsOf_9 : decode cX3_stepsOf 9 = .ok (.getfield 27, 3) := by decide +kernel
theorem dX3_stepsOf_12 : decode cX3_stepsOf 12 = .ok (.iload_n 1, 1) := by decide +kernel
theorem dX3_stepsOf_13 : decode cX3_stepsOf 13 = .ok (.iaload, 1) := by decide +kernel
theorem dX3_stepsOf_14 : decode cX3_stepsOf 14 = .ok (.isub, 1) := by decide +kernel
theorem dX3_stepsOf_15 : decode cX3_stepsOf 15 = .ok (.ireturn, 1) := by decide +kernel
theorem dX3_packedStep_0 : decode cX3_packedStep 0 = .ok (.aload_n 0, 1) := by decide +kernel
theorem dX3_packedStep_1 : decode cX3_packedStep 1 = .ok (.getfield 33, 3) := by decide +kernel
theorem dX3_packedStep_4 : decode cX3_packedStep 4 = .ok (.aload_n 0, 1) := by decide +kernel
theorem dX3_packedStep_5 : decode cX3_packedStep 5 = .ok (.getfield 27, 3) := by decide +kernel
theorem dX3_packedStep_8 : decode cX3_packedStep 8 = .ok (.iload_n 1, 1) := by decide +kernel
theorem dX3_packedStep_9 : decode cX3_packedStep 9 = .ok (.iaload, 1) := by decide +kernel
theorem dX3_packedStep_10 : decode cX3_packedStep 10 = .ok (.iload_n 2, 1) := by decide +kernel
theorem dX3_packedStep_11 : decode cX3_packedStep 11 = .ok (.iadd, 1) := by decide +kernel
theorem dX3_packedStep_12 : decode cX3_packedStep 12 = .ok (.iaload, 1) := by decide +kernel
theorem dX3_packedStep_13 : decode cX3_packedStep 13 = .ok (.ireturn, 1) := by decide +kernel
theorem dX3_takersIn_0 : decode cX3_takersIn 0 = .ok (.aload_n 0, 1) := by decide +kernel
theorem dX3_takersIn_1 : decode cX3_takersIn 1 = .ok (.getfield 24, 3) := by decide +kernel
theorem dX3_takersIn_4 : decode cX3_takersIn 4 = .ok (.iload_n 1, 1) := by decide +kernel
theorem dX3_takersIn_5 : decode cX3_takersIn 5 = .ok (.iaload, 1) := by decide +kernel
theorem dX3_takersIn_6 : decode cX3_takersIn 6 = .ok (.ireturn, 1) := by decide +kernel
theorem dX3_onTheWay_0 : decode cX3_onTheWay 0 = .ok (.iload_n 1, 1) := by decide +kernel
theorem dX3_onTheWay_1 : decode cX3_onTheWay 1 = .ok (.istore_n 3, 1) := by decide +kernel
theorem dX3_onTheWay_2 : decode cX3_onTheWay 2 = .ok (.aload_n 0, 1) := by decide +kernel
theorem dX3_onTheWay_3 : decode cX3_onTheWay 3 = .ok (.getfield 15, 3) := by decide +kernel
theorem dX3_onTheWay_6 : decode cX3_onTheWay 6 = .ok (.iload_n 1, 1) := by decide +kernel
theorem dX3_onTheWay_7 : decode cX3_onTheWay 7 = .ok (.iaload, 1) := by decide +kernel
theorem dX3_onTheWay_8 : decode cX3_onTheWay 8 = .ok (.istore 4, 2) := by decide +kernel
theorem dX3_onTheWay_10 : decode cX3_onTheWay 10 = .ok (.iload 4, 2) := by decide +kernel
theorem dX3_onTheWay_12 : decode cX3_onTheWay 12 = .ok (.iload_n 2, 1) := by decide +kernel
theorem dX3_onTheWay_13 : decode cX3_onTheWay 13 = .ok (.if_icmp .le 16, 3) := by decide +kernel
theorem dX3_onTheWay_16 : decode cX3_onTheWay 16 = .ok (.aload_n 0, 1) := by decide +kernel
theorem dX3_onTheWay_17 : decode cX3_onTheWay 17 = .ok (.getfield 18, 3) := by decide +kernel
theorem dX3_onTheWay_20 : decode cX3_onTheWay 20 = .ok (.iload_n 3, 1) := by decide +kernel
theorem dX3_onTheWay_21 : decode cX3_onTheWay 21 = .ok (.iaload, 1) := by decide +kernel
theorem dX3_onTheWay_22 : decode cX3_onTheWay 22 = .ok (.istore_n 3, 1) := by decide +kernel
theorem dX3_onTheWay_23 : decode cX3_onTheWay 23 = .ok (.iinc 4 (-1), 3) := by decide +kernel
theorem dX3_onTheWay_26 : decode cX3_onTheWay 26 = .ok (.goto (-16), 3) := by decide +kernel
theorem dX3_onTheWay_29 : decode cX3_onTheWay 29 = .ok (.iload_n 3, 1) := by decide +kernel
theorem dX3_onTheWay_30 : decode cX3_onTheWay 30 = .ok (.ireturn, 1) := by decide +kernel
theorem dX3_partOf_0 : decode cX3_partOf 0 = .ok (.iload_n 1, 1) := by decide +kernel
theorem dX3_partOf_1 : decode cX3_partOf 1 = .ok (.tableswitch 63 0 3 #[31, 37, 45, 53], 31) := by decide +kernel
theorem dX3_partOf_32 : decode cX3_partOf 32 = .ok (.iload_n 0, 1) := by decide +kernel
theorem dX3_partOf_33 : decode cX3_partOf 33 = .ok (.sipush 511, 3) := by decide +kernel
theorem dX3_partOf_36 : decode cX3_partOf 36 = .ok (.iand, 1) := by decide +kernel
theorem dX3_partOf_37 : decode cX3_partOf 37 = .ok (.ireturn, 1) := by decide +kernel
theorem dX3_partOf_38 : decode cX3_partOf 38 = .ok (.iload_n 0, 1) := by decide +kernel
theorem dX3_partOf_39 : decode cX3_partOf 39 = .ok (.bipush 9, 2) := by decide +kernel
theorem dX3_partOf_41 : decode cX3_partOf 41 = .ok (.iushr, 1) := by decide +kernel
theorem dX3_partOf_42 : decode cX3_partOf 42 = .ok (.bipush 7, 2) := by decide +kernel
theorem dX3_partOf_44 : decode cX3_partOf 44 = .ok (.iand, 1) := by decide +kernel
theorem dX3_partOf_45 : decode cX3_partOf 45 = .ok (.ireturn, 1) := by decide +kernel
theorem dX3_partOf_46 : decode cX3_partOf 46 = .ok (.iload_n 0, 1) := by decide +kernel
theorem dX3_partOf_47 : decode cX3_partOf 47 = .ok (.bipush 12, 2) := by decide +kernel
theorem dX3_partOf_49 : decode cX3_partOf 49 = .ok (.iushr, 1) := by decide +kernel
theorem dX3_partOf_50 : decode cX3_partOf 50 = .ok (.bipush 15, 2) := by decide +kernel
theorem dX3_partOf_52 : decode cX3_partOf 52 = .ok (.iand, 1) := by decide +kernel
theorem dX3_partOf_53 : decode cX3_partOf 53 = .ok (.ireturn, 1) := by decide +kernel
theorem dX3_partOf_54 : decode cX3_partOf 54 = .ok (.iload_n 0, 1) := by decide +kernel
theorem dX3_partOf_55 : decode cX3_partOf 55 = .ok (.bipush 16, 2) := by decide +kernel
theorem dX3_partOf_57 : decode cX3_partOf 57 = .ok (.iushr, 1) := by decide +kernel
theorem dX3_partOf_58 : decode cX3_partOf 58 = .ok (.bipush 7, 2) := by decide +kernel
theorem dX3_partOf_60 : decode cX3_partOf 60 = .ok (.iand, 1) := by decide +kernel
theorem dX3_partOf_61 : decode cX3_partOf 61 = .ok (.iconst 1, 1) := by decide +kernel
theorem dX3_partOf_62 : decode cX3_partOf 62 = .ok (.isub, 1) := by decide +kernel
theorem dX3_partOf_63 : decode cX3_partOf 63 = .ok (.ireturn, 1) := by decide +kernel
theorem dX3_partOf_64 : decode cX3_partOf 64 = .ok (.iload_n 0, 1) := by decide +kernel
theorem dX3_partOf_65 : decode cX3_partOf 65 = .ok (.bipush 19, 2) := by decide +kernel
theorem dX3_partOf_67 : decode cX3_partOf 67 = .ok (.iushr, 1) := by decide +kernel
theorem dX3_partOf_68 : decode cX3_partOf 68 = .ok (.bipush 31, 2) := by decide +kernel
theorem dX3_partOf_70 : decode cX3_partOf 70 = .ok (.iand, 1) := by decide +kernel
theorem dX3_partOf_71 : decode cX3_partOf 71 = .ok (.iconst 1, 1) := by decide +kernel
theorem dX3_partOf_72 : decode cX3_partOf 72 = .ok (.isub, 1) := by decide +kernel
theorem dX3_partOf_73 : decode cX3_partOf 73 = .ok (.ireturn, 1) := by decide +kernel
theorem dX3_takersOf_0 : decode cX3_takersOf 0 = .ok (.iload_n 0, 1) := by decide +kernel
theorem dX3_takersOf_1 : decode cX3_takersOf 1 = .ok (.iconst 3, 1) := by decide +kernel
theorem dX3_takersOf_2 : decode cX3_takersOf 2 = .ok (.invokestatic 40, 3) := by decide +kernel
theorem dX3_takersOf_5 : decode cX3_takersOf 5 = .ok (.istore_n 1, 1) := by decide +kernel
theorem dX3_takersOf_6 : decode cX3_takersOf 6 = .ok (.iconst 1, 1) := by decide +kernel
theorem dX3_takersOf_7 : decode cX3_takersOf 7 = .ok (.iload_n 0, 1) := by decide +kernel
theorem dX3_takersOf_8 : decode cX3_takersOf 8 = .ok (.iconst 1, 1) := by decide +kernel
theorem dX3_takersOf_9 : decode cX3_takersOf 9 = .ok (.invokestatic 40, 3) := by decide +kernel
theorem dX3_takersOf_12 : decode cX3_takersOf 12 = .ok (.ishl, 1) := by decide +kernel
theorem dX3_takersOf_13 : decode cX3_takersOf 13 = .ok (.iload_n 1, 1) := by decide +kernel
theorem dX3_takersOf_14 : decode cX3_takersOf 14 = .ok (.ifCond .ge 7, 3) := by decide +kernel
theorem dX3_takersOf_17 : decode cX3_takersOf 17 = .ok (.iconst 0, 1) := by decide +kernel
theorem dX3_takersOf_18 : decode cX3_takersOf 18 = .ok (.goto 6, 3) := by decide +kernel
theorem dX3_takersOf_21 : decode cX3_takersOf 21 = .ok (.iconst 1, 1) := by decide +kernel
theorem dX3_takersOf_22 : decode cX3_takersOf 22 = .ok (.iload_n 1, 1) := by decide +kernel
theorem dX3_takersOf_23 : decode cX3_takersOf 23 = .ok (.ishl, 1) := by decide +kernel
theorem dX3_takersOf_24 : decode cX3_takersOf 24 = .ok (.ior, 1) := by decide +kernel
theorem dX3_takersOf_25 : decode cX3_takersOf 25 = .ok (.ireturn, 1) := by decide +kernel
theorem dX3_forget_0 : decode cX3_forget 0 = .ok (.aload_n 0, 1) := by decide +kernel
theorem dX3_forget_1 : decode cX3_forget 1 = .ok (.iconst 0, 1) := by decide +kernel
theorem dX3_forget_2 : decode cX3_forget 2 = .ok (.putfield 36, 3) := by decide +kernel
theorem dX3_forget_5 : decode cX3_forget 5 = .ok (.aload_n 0, 1) := by decide +kernel
theorem dX3_forget_6 : decode cX3_forget 6 = .ok (.iconst 0, 1) := by decide +kernel
theorem dX3_forget_7 : decode cX3_forget 7 = .ok (.putfield 44, 3) := by decide +kernel
theorem dX3_forget_10 : decode cX3_forget 10 = .ok (.aload_n 0, 1) := by decide +kernel
theorem dX3_forget_11 : decode cX3_forget 11 = .ok (.iconst 0, 1) := by decide +kernel
theorem dX3_forget_12 : decode cX3_forget 12 = .ok (.putfield 47, 3) := by decide +kernel
theorem dX3_forget_15 : decode cX3_forget 15 = .ok (.return_, 1) := by decide +kernel
theorem dX3_fill_0 : decode cX3_fill 0 = .ok (.aload_n 0, 1) := by decide +kernel
theorem dX3_fill_1 : decode cX3_fill 1 = .ok (.invokevirtual 51, 3) := by decide +kernel
theorem dX3_fill_4 : decode cX3_fill 4 = .ok (.aload_n 0, 1) := by decide +kernel
theorem dX3_fill_5 : decode cX3_fill 5 = .ok (.getfield 30, 3) := by decide +kernel
theorem dX3_fill_8 : decode cX3_fill 8 = .ok (.iconst (-1), 1) := by decide +kernel
theorem dX3_fill_9 : decode cX3_fill 9 = .ok (.invokestatic 54, 3) := by decide +kernel
theorem dX3_fill_12 : decode cX3_fill 12 = .ok (.aload_n 1, 1) := by decide +kernel
theorem dX3_fill_13 : decode cX3_fill 13 = .ok (.invokevirtual 60, 3) := by decide +kernel
theorem dX3_fill_16 : decode cX3_fill 16 = .ok (.istore_n 2, 1) := by decide +kernel
theorem dX3_fill_17 : decode cX3_fill 17 = .ok (.aload_n 0, 1) := by decide +kernel
theorem dX3_fill_18 : decode cX3_fill 18 = .ok (.iload_n 2, 1) := by decide +kernel
theorem dX3_fill_19 : decode cX3_fill 19 = .ok (.aload_n 0, 1) := by decide +kernel
theorem dX3_fill_20 : decode cX3_fill 20 = .ok (.iload_n 2, 1) := by decide +kernel
theorem dX3_fill_21 : decode cX3_fill 21 = .ok (.invokevirtual 66, 3) := by decide +kernel
theorem dX3_fill_24 : decode cX3_fill 24 = .ok (.iconst 0, 1) := by decide +kernel
theorem dX3_fill_25 : decode cX3_fill 25 = .ok (.iconst 0, 1) := by decide +kernel
theorem dX3_fill_26 : decode cX3_fill 26 = .ok (.invokevirtual 70, 3) := by decide +kernel
theorem dX3_fill_29 : decode cX3_fill 29 = .ok (.iconst 0, 1) := by decide +kernel
theorem dX3_fill_30 : decode cX3_fill 30 = .ok (.istore_n 3, 1) := by decide +kernel
theorem dX3_fill_31 : decode cX3_fill 31 = .ok (.iload_n 3, 1) := by decide +kernel
theorem dX3_fill_32 : decode cX3_fill 32 = .ok (.aload_n 0, 1) := by decide +kernel
theorem dX3_fill_33 : decode cX3_fill 33 = .ok (.getfield 36, 3) := by decide +kernel
theorem dX3_fill_36 : decode cX3_fill 36 = .ok (.if_icmp .ge 29, 3) := by decide +kernel
theorem dX3_fill_39 : decode cX3_fill 39 = .ok (.iload_n 3, 1) := by decide +kernel
theorem dX3_fill_40 : decode cX3_fill 40 = .ok (.sipush 400, 3) := by decide +kernel
theorem dX3_fill_43 : decode cX3_fill 43 = .ok (.if_icmp .ge 22, 3) := by decide +kernel
theorem dX3_fill_46 : decode cX3_fill 46 = .ok (.aload_n 0, 1) := by decide +kernel
theorem dX3_fill_47 : decode cX3_fill 47 = .ok (.getfield 47, 3) := by decide +kernel
theorem dX3_fill_50 : decode cX3_fill 50 = .ok (.ifCond .ne 15, 3) := by decide +kernel
theorem dX3_fill_53 : decode cX3_fill 53 = .ok (.aload_n 0, 1) := by decide +kernel
theorem dX3_fill_54 : decode cX3_fill 54 = .ok (.iload_n 3, 1) := by decide +kernel
theorem dX3_fill_55 : decode cX3_fill 55 = .ok (.aload_n 1, 1) := by decide +kernel
theorem dX3_fill_56 : decode cX3_fill 56 = .ok (.invokevirtual 74, 3) := by decide +kernel
theorem dX3_fill_59 : decode cX3_fill 59 = .ok (.iinc 3 1, 3) := by decide +kernel
theorem dX3_fill_62 : decode cX3_fill 62 = .ok (.goto (-31), 3) := by decide +kernel
theorem dX3_fill_65 : decode cX3_fill 65 = .ok (.aload_n 0, 1) := by decide +kernel
theorem dX3_fill_66 : decode cX3_fill 66 = .ok (.getfield 47, 3) := by decide +kernel
theorem dX3_fill_69 : decode cX3_fill 69 = .ok (.ifCond .eq 9, 3) := by decide +kernel
theorem dX3_fill_72 : decode cX3_fill 72 = .ok (.aload_n 0, 1) := by decide +kernel
theorem dX3_fill_73 : decode cX3_fill 73 = .ok (.invokevirtual 51, 3) := by decide +kernel
theorem dX3_fill_76 : decode cX3_fill 76 = .ok (.iconst (-1), 1) := by decide +kernel
theorem dX3_fill_77 : decode cX3_fill 77 = .ok (.ireturn, 1) := by decide +kernel
theorem dX3_fill_78 : decode cX3_fill 78 = .ok (.aload_n 0, 1) := by decide +kernel
theorem dX3_fill_79 : decode cX3_fill 79 = .ok (.getfield 36, 3) := by decide +kernel
theorem dX3_fill_82 : decode cX3_fill 82 = .ok (.ireturn, 1) := by decide +kernel
theorem dX3_addStepsOf_0 : decode cX3_addStepsOf 0 = .ok (.aload_n 0, 1) := by decide +kernel
theorem dX3_addStepsOf_1 : decode cX3_addStepsOf 1 = .ok (.getfield 11, 3) := by decide +kernel
theorem dX3_addStepsOf_4 : decode cX3_addStepsOf 4 = .ok (.iload_n 1, 1) := by decide +kernel
theorem dX3_addStepsOf_5 : decode cX3_addStepsOf 5 = .ok (.iaload, 1) := by decide +kernel
theorem dX3_addStepsOf_6 : decode cX3_addStepsOf 6 = .ok (.istore_n 3, 1) := by decide +kernel
theorem dX3_addStepsOf_7 : decode cX3_addStepsOf 7 = .ok (.aload_n 0, 1) := by decide +kernel
theorem dX3_addStepsOf_8 : decode cX3_addStepsOf 8 = .ok (.getfield 24, 3) := by decide +kernel
theorem dX3_addStepsOf_11 : decode cX3_addStepsOf 11 = .ok (.iload_n 1, 1) := by decide +kernel
theorem dX3_addStepsOf_12 : decode cX3_addStepsOf 12 = .ok (.iconst 0, 1) := by decide +kernel
theorem dX3_addStepsOf_13 : decode cX3_addStepsOf 13 = .ok (.iastore, 1) := by decide +kernel
theorem dX3_addStepsOf_14 : decode cX3_addStepsOf 14 = .ok (.aload_n 0, 1) := by decide +kernel
theorem dX3_addStepsOf_15 : decode cX3_addStepsOf 15 = .ok (.getfield 27, 3) := by decide +kernel
theorem dX3_addStepsOf_18 : decode cX3_addStepsOf 18 = .ok (.iload_n 1, 1) := by decide +kernel
theorem dX3_addStepsOf_19 : decode cX3_addStepsOf 19 = .ok (.aload_n 0, 1) := by decide +kernel
theorem dX3_addStepsOf_20 : decode cX3_addStepsOf 20 = .ok (.getfield 44, 3) := by decide +kernel
theorem dX3_addStepsOf_23 : decode cX3_addStepsOf 23 = .ok (.iastore, 1) := by decide +kernel
theorem dX3_addStepsOf_24 : decode cX3_addStepsOf 24 = .ok (.iconst 0, 1) := by decide +kernel
theorem dX3_addStepsOf_25 : decode cX3_addStepsOf 25 = .ok (.istore 4, 2) := by decide +kernel
theorem dX3_addStepsOf_27 : decode cX3_addStepsOf 27 = .ok (.iload 4, 2) := by decide +kernel
theorem dX3_addStepsOf_29 : decode cX3_addStepsOf 29 = .ok (.aload_n 2, 1) := by decide +kernel
theorem dX3_addStepsOf_30 : decode cX3_addStepsOf 30 = .ok (.getfield 78, 3) := by decide +kernel
theorem dX3_addStepsOf_33 : decode cX3_addStepsOf 33 = .ok (.if_icmp .ge 61, 3) := by decide +kernel
theorem dX3_addStepsOf_36 : decode cX3_addStepsOf 36 = .ok (.iconst 0, 1) := by decide +kernel
theorem dX3_addStepsOf_37 : decode cX3_addStepsOf 37 = .ok (.istore 5, 2) := by decide +kernel
theorem dX3_addStepsOf_39 : decode cX3_addStepsOf 39 = .ok (.iload 5, 2) := by decide +kernel
theorem dX3_addStepsOf_41 : decode cX3_addStepsOf 41 = .ok (.aload_n 2, 1) := by decide +kernel
theorem dX3_addStepsOf_42 : decode cX3_addStepsOf 42 = .ok (.iload 4, 2) := by decide +kernel
theorem dX3_addStepsOf_44 : decode cX3_addStepsOf 44 = .ok (.invokevirtual 81, 3) := by decide +kernel
theorem dX3_addStepsOf_47 : decode cX3_addStepsOf 47 = .ok (.if_icmp .ge 41, 3) := by decide +kernel
theorem dX3_addStepsOf_50 : decode cX3_addStepsOf 50 = .ok (.aload_n 2, 1) := by decide +kernel
theorem dX3_addStepsOf_51 : decode cX3_addStepsOf 51 = .ok (.iload 4, 2) := by decide +kernel
theorem dX3_addStepsOf_53 : decode cX3_addStepsOf 53 = .ok (.iload 5, 2) := by decide +kernel
theorem dX3_addStepsOf_55 : decode cX3_addStepsOf 55 = .ok (.invokevirtual 84, 3) := by decide +kernel
theorem dX3_addStepsOf_58 : decode cX3_addStepsOf 58 = .ok (.astore 6, 2) := by decide +kernel
theorem dX3_addStepsOf_60 : decode cX3_addStepsOf 60 = .ok (.aload 6, 2) := by decide +kernel
theorem dX3_addStepsOf_62 : decode cX3_addStepsOf 62 = .ok (.ifnull 20, 3) := by decide +kernel
theorem dX3_addStepsOf_65 : decode cX3_addStepsOf 65 = .ok (.aload 6, 2) := by decide +kernel
theorem dX3_addStepsOf_67 : decode cX3_addStepsOf 67 = .ok (.iload_n 3, 1) := by decide +kernel
theorem dX3_addStepsOf_68 : decode cX3_addStepsOf 68 = .ok (.invokevirtual 88, 3) := by decide +kernel
theorem dX3_addStepsOf_71 : decode cX3_addStepsOf 71 = .ok (.ifCond .eq 11, 3) := by decide +kernel
theorem dX3_addStepsOf_74 : decode cX3_addStepsOf 74 = .ok (.aload_n 0, 1) := by decide +kernel
theorem dX3_addStepsOf_75 : decode cX3_addStepsOf 75 = .ok (.aload 6, 2) := by decide +kernel
theorem dX3_addStepsOf_77 : decode cX3_addStepsOf 77 = .ok (.iload_n 1, 1) := by decide +kernel
theorem dX3_addStepsOf_78 : decode cX3_addStepsOf 78 = .ok (.aload_n 2, 1) := by decide +kernel
theorem dX3_addStepsOf_79 : decode cX3_addStepsOf 79 = .ok (.invokevirtual 94, 3) := by decide +kernel
theorem dX3_addStepsOf_82 : decode cX3_addStepsOf 82 = .ok (.iinc 5 1, 3) := by decide +kernel
theorem dX3_addStepsOf_85 : decode cX3_addStepsOf 85 = .ok (.goto (-46), 3) := by decide +kernel
theorem dX3_addStepsOf_88 : decode cX3_addStepsOf 88 = .ok (.iinc 4 1, 3) := by decide +kernel
theorem dX3_addStepsOf_91 : decode cX3_addStepsOf 91 = .ok (.goto (-64), 3) := by decide +kernel
theorem dX3_addStepsOf_94 : decode cX3_addStepsOf 94 = .ok (.aload_n 0, 1) := by decide +kernel
theorem dX3_addStepsOf_95 : decode cX3_addStepsOf 95 = .ok (.getfield 27, 3) := by decide +kernel
theorem dX3_addStepsOf_98 : decode cX3_addStepsOf 98 = .ok (.iload_n 1, 1) := by decide +kernel
theorem dX3_addStepsOf_99 : decode cX3_addStepsOf 99 = .ok (.iconst 1, 1) := by decide +kernel
theorem dX3_addStepsOf_100 : decode cX3_addStepsOf 100 = .ok (.iadd, 1) := by decide +kernel
theorem dX3_addStepsOf_101 : decode cX3_addStepsOf 101 = .ok (.aload_n 0, 1) := by decide +kernel
theorem dX3_addStepsOf_102 : decode cX3_addStepsOf 102 = .ok (.getfield 44, 3) := by decide +kernel
theorem dX3_addStepsOf_105 : decode cX3_addStepsOf 105 = .ok (.iastore, 1) := by decide +kernel
theorem dX3_addStepsOf_106 : decode cX3_addStepsOf 106 = .ok (.return_, 1) := by decide +kernel
theorem dX3_addStepsBy_0 : decode cX3_addStepsBy 0 = .ok (.aload_n 1, 1) := by decide +kernel
theorem dX3_addStepsBy_1 : decode cX3_addStepsBy 1 = .ok (.aload_n 1, 1) := by decide +kernel
theorem dX3_addStepsBy_2 : decode cX3_addStepsBy 2 = .ok (.aload_n 0, 1) := by decide +kernel
theorem dX3_addStepsBy_3 : decode cX3_addStepsBy 3 = .ok (.getfield 11, 3) := by decide +kernel
theorem dX3_addStepsBy_6 : decode cX3_addStepsBy 6 = .ok (.iload_n 2, 1) := by decide +kernel
theorem dX3_addStepsBy_7 : decode cX3_addStepsBy 7 = .ok (.iaload, 1) := by decide +kernel
theorem dX3_addStepsBy_8 : decode cX3_addStepsBy 8 = .ok (.invokevirtual 98, 3) := by decide +kernel
theorem dX3_addStepsBy_11 : decode cX3_addStepsBy 11 = .ok (.invokevirtual 101, 3) := by decide +kernel
theorem dX3_addStepsBy_14 : decode cX3_addStepsBy 14 = .ok (.istore 4, 2) := by decide +kernel
theorem dX3_addStepsBy_16 : decode cX3_addStepsBy 16 = .ok (.aload_n 1, 1) := by decide +kernel
theorem dX3_addStepsBy_17 : decode cX3_addStepsBy 17 = .ok (.getfield 104, 3) := by decide +kernel
theorem dX3_addStepsBy_20 : decode cX3_addStepsBy 20 = .ok (.ifCond .ne 15, 3) := by decide +kernel
theorem dX3_addStepsBy_23 : decode cX3_addStepsBy 23 = .ok (.aload_n 0, 1) := by decide +kernel
theorem dX3_addStepsBy_24 : decode cX3_addStepsBy 24 = .ok (.iload_n 2, 1) := by decide +kernel
theorem dX3_addStepsBy_25 : decode cX3_addStepsBy 25 = .ok (.iload 4, 2) := by decide +kernel
theorem dX3_addStepsBy_27 : decode cX3_addStepsBy 27 = .ok (.aload_n 1, 1) := by decide +kernel
theorem dX3_addStepsBy_28 : decode cX3_addStepsBy 28 = .ok (.invokestatic 107, 3) := by decide +kernel
theorem dX3_addStepsBy_31 : decode cX3_addStepsBy 31 = .ok (.invokevirtual 111, 3) := by decide +kernel
theorem dX3_addStepsBy_34 : decode cX3_addStepsBy 34 = .ok (.return_, 1) := by decide +kernel
theorem dX3_addStepsBy_35 : decode cX3_addStepsBy 35 = .ok (.aload_n 1, 1) := by decide +kernel
theorem dX3_addStepsBy_36 : decode cX3_addStepsBy 36 = .ok (.getfield 115, 3) := by decide +kernel
theorem dX3_addStepsBy_39 : decode cX3_addStepsBy 39 = .ok (.iconst 1, 1) := by decide +kernel
theorem dX3_addStepsBy_40 : decode cX3_addStepsBy 40 = .ok (.iadd, 1) := by decide +kernel
theorem dX3_addStepsBy_41 : decode cX3_addStepsBy 41 = .ok (.istore 5, 2) := by decide +kernel
theorem dX3_addStepsBy_43 : decode cX3_addStepsBy 43 = .ok (.iload 5, 2) := by decide +kernel
theorem dX3_addStepsBy_45 : decode cX3_addStepsBy 45 = .ok (.aload_n 3, 1) := by decide +kernel
theorem dX3_addStepsBy_46 : decode cX3_addStepsBy 46 = .ok (.getfield 78, 3) := by decide +kernel
theorem dX3_addStepsBy_49 : decode cX3_addStepsBy 49 = .ok (.if_icmp .ge 109, 3) := by decide +kernel
theorem dX3_addStepsBy_52 : decode cX3_addStepsBy 52 = .ok (.iconst 0, 1) := by decide +kernel
theorem dX3_addStepsBy_53 : decode cX3_addStepsBy 53 = .ok (.istore 6, 2) := by decide +kernel
theorem dX3_addStepsBy_55 : decode cX3_addStepsBy 55 = .ok (.iload 6, 2) := by decide +kernel
theorem dX3_addStepsBy_57 : decode cX3_addStepsBy 57 = .ok (.aload_n 3, 1) := by decide +kernel
theorem dX3_addStepsBy_58 : decode cX3_addStepsBy 58 = .ok (.iload 5, 2) := by decide +kernel
theorem dX3_addStepsBy_60 : decode cX3_addStepsBy 60 = .ok (.invokevirtual 81, 3) := by decide +kernel
theorem dX3_addStepsBy_63 : decode cX3_addStepsBy 63 = .ok (.if_icmp .ge 89, 3) := by decide +kernel
theorem dX3_addStepsBy_66 : decode cX3_addStepsBy 66 = .ok (.aload_n 3, 1) := by decide +kernel
theorem dX3_addStepsBy_67 : decode cX3_addStepsBy 67 = .ok (.iload 5, 2) := by decide +kernel
theorem dX3_addStepsBy_69 : decode cX3_addStepsBy 69 = .ok (.iload 6, 2) := by decide +kernel
theorem dX3_addStepsBy_71 : decode cX3_addStepsBy 71 = .ok (.invokevirtual 84, 3) := by decide +kernel
theorem dX3_addStepsBy_74 : decode cX3_addStepsBy 74 = .ok (.astore 7, 2) := by decide +kernel
theorem dX3_addStepsBy_76 : decode cX3_addStepsBy 76 = .ok (.aload 7, 2) := by decide +kernel
theorem dX3_addStepsBy_78 : decode cX3_addStepsBy 78 = .ok (.ifnull 68, 3) := by decide +kernel
theorem dX3_addStepsBy_81 : decode cX3_addStepsBy 81 = .ok (.aload 7, 2) := by decide +kernel
theorem dX3_addStepsBy_83 : decode cX3_addStepsBy 83 = .ok (.getfield 104, 3) := by decide +kernel
theorem dX3_addStepsBy_86 : decode cX3_addStepsBy 86 = .ok (.aload_n 1, 1) := by decide +kernel
theorem dX3_addStepsBy_87 : decode cX3_addStepsBy 87 = .ok (.getfield 104, 3) := by decide +kernel
theorem dX3_addStepsBy_90 : decode cX3_addStepsBy 90 = .ok (.if_icmp .ne 56, 3) := by decide +kernel
theorem dX3_addStepsBy_93 : decode cX3_addStepsBy 93 = .ok (.aload 7, 2) := by decide +kernel
theorem dX3_addStepsBy_95 : decode cX3_addStepsBy 95 = .ok (.aload_n 0, 1) := by decide +kernel
theorem dX3_addStepsBy_96 : decode cX3_addStepsBy 96 = .ok (.getfield 11, 3) := by decide +kernel
theorem dX3_addStepsBy_99 : decode cX3_addStepsBy 99 = .ok (.iload_n 2, 1) := by decide +kernel
theorem dX3_addStepsBy_100 : decode cX3_addStepsBy 100 = .ok (.iaload, 1) := by decide +kernel
theorem dX3_addStepsBy_101 : decode cX3_addStepsBy 101 = .ok (.invokevirtual 88, 3) := by decide +kernel
theorem dX3_addStepsBy_104 : decode cX3_addStepsBy 104 = .ok (.ifCond .ne 6, 3) := by decide +kernel
theorem dX3_addStepsBy_107 : decode cX3_addStepsBy 107 = .ok (.goto 39, 3) := by decide +kernel
theorem dX3_addStepsBy_110 : decode cX3_addStepsBy 110 = .ok (.aload 7, 2) := by decide +kernel
theorem dX3_addStepsBy_112 : decode cX3_addStepsBy 112 = .ok (.iload 4, 2) := by decide +kernel
theorem dX3_addStepsBy_114 : decode cX3_addStepsBy 114 = .ok (.invokevirtual 98, 3) := by decide +kernel
theorem dX3_addStepsBy_117 : decode cX3_addStepsBy 117 = .ok (.istore 8, 2) := by decide +kernel
theorem dX3_addStepsBy_119 : decode cX3_addStepsBy 119 = .ok (.iload 8, 2) := by decide +kernel
theorem dX3_addStepsBy_121 : decode cX3_addStepsBy 121 = .ok (.ifCond .lt 25, 3) := by decide +kernel
theorem dX3_addStepsBy_124 : decode cX3_addStepsBy 124 = .ok (.aload_n 0, 1) := by decide +kernel
theorem dX3_addStepsBy_125 : decode cX3_addStepsBy 125 = .ok (.iload_n 2, 1) := by decide +kernel
theorem dX3_addStepsBy_126 : decode cX3_addStepsBy 126 = .ok (.aload 7, 2) := by decide +kernel
theorem dX3_addStepsBy_128 : decode cX3_addStepsBy 128 = .ok (.iload 8, 2) := by decide +kernel
theorem dX3_addStepsBy_130 : decode cX3_addStepsBy 130 = .ok (.invokevirtual 101, 3) := by decide +kernel
theorem dX3_addStepsBy_133 : decode cX3_addStepsBy 133 = .ok (.aload_n 1, 1) := by decide +kernel
theorem dX3_addStepsBy_134 : decode cX3_addStepsBy 134 = .ok (.invokestatic 107, 3) := by decide +kernel
theorem dX3_addStepsBy_137 : decode cX3_addStepsBy 137 = .ok (.aload 7, 2) := by decide +kernel
theorem dX3_addStepsBy_139 : decode cX3_addStepsBy 139 = .ok (.invokestatic 118, 3) := by decide +kernel
theorem dX3_addStepsBy_142 : decode cX3_addStepsBy 142 = .ok (.ior, 1) := by decide +kernel
theorem dX3_addStepsBy_143 : decode cX3_addStepsBy 143 = .ok (.invokevirtual 111, 3) := by decide +kernel
theorem dX3_addStepsBy_146 : decode cX3_addStepsBy 146 = .ok (.iinc 6 1, 3) := by decide +kernel
theorem dX3_addStepsBy_149 : decode cX3_addStepsBy 149 = .ok (.goto (-94), 3) := by decide +kernel
theorem dX3_addStepsBy_152 : decode cX3_addStepsBy 152 = .ok (.iinc 5 1, 3) := by decide +kernel
theorem dX3_addStepsBy_155 : decode cX3_addStepsBy 155 = .ok (.goto (-112), 3) := by decide +kernel
theorem dX3_addStepsBy_158 : decode cX3_addStepsBy 158 = .ok (.return_, 1) := by decide +kernel
theorem dX3_packedMover_0 : decode cX3_packedMover 0 = .ok (.aload_n 0, 1) := by decide +kernel
theorem dX3_packedMover_1 : decode cX3_packedMover 1 = .ok (.getfield 115, 3) := by decide +kernel
theorem dX3_packedMover_4 : decode cX3_packedMover 4 = .ok (.bipush 9, 2) := by decide +kernel
theorem dX3_packedMover_6 : decode cX3_packedMover 6 = .ok (.ishl, 1) := by decide +kernel
theorem dX3_packedMover_7 : decode cX3_packedMover 7 = .ok (.aload_n 0, 1) := by decide +kernel
theorem dX3_packedMover_8 : decode cX3_packedMover 8 = .ok (.getfield 121, 3) := by decide +kernel
theorem dX3_packedMover_11 : decode cX3_packedMover 11 = .ok (.bipush 12, 2) := by decide +kernel
theorem dX3_packedMover_13 : decode cX3_packedMover 13 = .ok (.ishl, 1) := by decide +kernel
theorem dX3_packedMover_14 : decode cX3_packedMover 14 = .ok (.ior, 1) := by decide +kernel
theorem dX3_packedMover_15 : decode cX3_packedMover 15 = .ok (.ireturn, 1) := by decide +kernel
theorem dX3_packedOther_0 : decode cX3_packedOther 0 = .ok (.aload_n 0, 1) := by decide +kernel
theorem dX3_packedOther_1 : decode cX3_packedOther 1 = .ok (.getfield 115, 3) := by decide +kernel
theorem dX3_packedOther_4 : decode cX3_packedOther 4 = .ok (.iconst 1, 1) := by decide +kernel
theorem dX3_packedOther_5 : decode cX3_packedOther 5 = .ok (.iadd, 1) := by decide +kernel
theorem dX3_packedOther_6 : decode cX3_packedOther 6 = .ok (.bipush 16, 2) := by decide +kernel
theorem dX3_packedOther_8 : decode cX3_packedOther 8 = .ok (.ishl, 1) := by decide +kernel
theorem dX3_packedOther_9 : decode cX3_packedOther 9 = .ok (.aload_n 0, 1) := by decide +kernel
theorem dX3_packedOther_10 : decode cX3_packedOther 10 = .ok (.getfield 121, 3) := by decide +kernel
theorem dX3_packedOther_13 : decode cX3_packedOther 13 = .ok (.iconst 1, 1) := by decide +kernel
theorem dX3_packedOther_14 : decode cX3_packedOther 14 = .ok (.iadd, 1) := by decide +kernel
theorem dX3_packedOther_15 : decode cX3_packedOther 15 = .ok (.bipush 19, 2) := by decide +kernel
theorem dX3_packedOther_17 : decode cX3_packedOther 17 = .ok (.ishl, 1) := by decide +kernel
theorem dX3_packedOther_18 : decode cX3_packedOther 18 = .ok (.ior, 1) := by decide +kernel
theorem dX3_packedOther_19 : decode cX3_packedOther 19 = .ok (.ireturn, 1) := by decide +kernel
theorem dX3_addStep_0 : decode cX3_addStep 0 = .ok (.aload_n 0, 1) := by decide +kernel
theorem dX3_addStep_1 : decode cX3_addStep 1 = .ok (.iload_n 2, 1) := by decide +kernel
theorem dX3_addStep_2 : decode cX3_addStep 2 = .ok (.iload_n 1, 1) := by decide +kernel
theorem dX3_addStep_3 : decode cX3_addStep 3 = .ok (.invokevirtual 124, 3) := by decide +kernel
theorem dX3_addStep_6 : decode cX3_addStep 6 = .ok (.istore 4, 2) := by decide +kernel
theorem dX3_addStep_8 : decode cX3_addStep 8 = .ok (.iload 4, 2) := by decide +kernel
theorem dX3_addStep_10 : decode cX3_addStep 10 = .ok (.ifCond .ge 9, 3) := by decide +kernel
theorem dX3_addStep_13 : decode cX3_addStep 13 = .ok (.aload_n 0, 1) := by decide +kernel
theorem dX3_addStep_14 : decode cX3_addStep 14 = .ok (.iconst 1, 1) := by decide +kernel
theorem dX3_addStep_15 : decode cX3_addStep 15 = .ok (.putfield 47, 3) := by decide +kernel
theorem dX3_addStep_18 : decode cX3_addStep 18 = .ok (.return_, 1) := by decide +kernel
theorem dX3_addStep_19 : decode cX3_addStep 19 = .ok (.aload_n 0, 1) := by decide +kernel
theorem dX3_addStep_20 : decode cX3_addStep 20 = .ok (.getfield 44, 3) := by decide +kernel
theorem dX3_addStep_23 : decode cX3_addStep 23 = .ok (.aload_n 0, 1) := by decide +kernel
theorem dX3_addStep_24 : decode cX3_addStep 24 = .ok (.getfield 33, 3) := by decide +kernel
theorem dX3_addStep_27 : decode cX3_addStep 27 = .ok (.arraylength, 1) := by decide +kernel
theorem dX3_addStep_28 : decode cX3_addStep 28 = .ok (.if_icmp .lt 26, 3) := by decide +kernel
theorem dX3_addStep_31 : decode cX3_addStep 31 = .ok (.aload_n 0, 1) := by decide +kernel
theorem dX3_addStep_32 : decode cX3_addStep 32 = .ok (.aload_n 0, 1) := by decide +kernel
theorem dX3_addStep_33 : decode cX3_addStep 33 = .ok (.getfield 33, 3) := by decide +kernel
theorem dX3_addStep_36 : decode cX3_addStep 36 = .ok (.aload_n 0, 1) := by decide +kernel
theorem dX3_addStep_37 : decode cX3_addStep 37 = .ok (.getfield 33, 3) := by decide +kernel
theorem dX3_addStep_40 : decode cX3_addStep 40 = .ok (.arraylength, 1) := by decide +kernel
theorem dX3_addStep_41 : decode cX3_addStep 41 = .ok (.iconst 2, 1) := by decide +kernel
theorem dX3_addStep_42 : decode cX3_addStep 42 = .ok (.imul, 1) := by decide +kernel
theorem dX3_addStep_43 : decode cX3_addStep 43 = .ok (.ldc 127, 2) := by decide +kernel
theorem dX3_addStep_45 : decode cX3_addStep 45 = .ok (.invokestatic 128, 3) := by decide +kernel
theorem dX3_addStep_48 : decode cX3_addStep 48 = .ok (.invokestatic 133, 3) := by decide +kernel
theorem dX3_addStep_51 : decode cX3_addStep 51 = .ok (.putfield 33, 3) := by decide +kernel
theorem dX3_addStep_54 : decode cX3_addStep 54 = .ok (.aload_n 0, 1) := by decide +kernel
theorem dX3_addStep_55 : decode cX3_addStep 55 = .ok (.getfield 33, 3) := by decide +kernel
theorem dX3_addStep_58 : decode cX3_addStep 58 = .ok (.aload_n 0, 1) := by decide +kernel
theorem dX3_addStep_59 : decode cX3_addStep 59 = .ok (.getfield 44, 3) := by decide +kernel
theorem dX3_addStep_62 : decode cX3_addStep 62 = .ok (.iload_n 3, 1) := by decide +kernel
theorem dX3_addStep_63 : decode cX3_addStep 63 = .ok (.iload 4, 2) := by decide +kernel
theorem dX3_addStep_65 : decode cX3_addStep 65 = .ok (.ior, 1) := by decide +kernel
theorem dX3_addStep_66 : decode cX3_addStep 66 = .ok (.iastore, 1) := by decide +kernel
theorem dX3_addStep_67 : decode cX3_addStep 67 = .ok (.aload_n 0, 1) := by decide +kernel
theorem dX3_addStep_68 : decode cX3_addStep 68 = .ok (.dup, 1) := by decide +kernel
theorem dX3_addStep_69 : decode cX3_addStep 69 = .ok (.getfield 44, 3) := by decide +kernel
theorem dX3_addStep_72 : decode cX3_addStep 72 = .ok (.iconst 1, 1) := by decide +kernel
theorem dX3_addStep_73 : decode cX3_addStep 73 = .ok (.iadd, 1) := by decide +kernel
theorem dX3_addStep_74 : decode cX3_addStep 74 = .ok (.putfield 44, 3) := by decide +kernel
theorem dX3_addStep_77 : decode cX3_addStep 77 = .ok (.aload_n 0, 1) := by decide +kernel
theorem dX3_addStep_78 : decode cX3_addStep 78 = .ok (.getfield 24, 3) := by decide +kernel
theorem dX3_addStep_81 : decode cX3_addStep 81 = .ok (.iload_n 1, 1) := by decide +kernel
theorem dX3_addStep_82 : decode cX3_addStep 82 = .ok (.dup2, 1) := by decide +kernel
theorem dX3_addStep_83 : decode cX3_addStep 83 = .ok (.iaload, 1) := by decide +kernel
theorem dX3_addStep_84 : decode cX3_addStep 84 = .ok (.iload_n 3, 1) := by decide +kernel
theorem dX3_addStep_85 : decode cX3_addStep 85 = .ok (.invokestatic 137, 3) := by decide +kernel
theorem dX3_addStep_88 : decode cX3_addStep 88 = .ok (.ior, 1) := by decide +kernel
theorem dX3_addStep_89 : decode cX3_addStep 89 = .ok (.iastore, 1) := by decide +kernel
theorem dX3_addStep_90 : decode cX3_addStep 90 = .ok (.return_, 1) := by decide +kernel
theorem dX3_numberOf_0 : decode cX3_numberOf 0 = .ok (.aload_n 0, 1) := by decide +kernel
theorem dX3_numberOf_1 : decode cX3_numberOf 1 = .ok (.iload_n 1, 1) := by decide +kernel
theorem dX3_numberOf_2 : decode cX3_numberOf 2 = .ok (.invokevirtual 66, 3) := by decide +kernel
theorem dX3_numberOf_5 : decode cX3_numberOf 5 = .ok (.istore_n 3, 1) := by decide +kernel
theorem dX3_numberOf_6 : decode cX3_numberOf 6 = .ok (.aload_n 0, 1) := by decide +kernel
theorem dX3_numberOf_7 : decode cX3_numberOf 7 = .ok (.getfield 30, 3) := by decide +kernel
theorem dX3_numberOf_10 : decode cX3_numberOf 10 = .ok (.iload_n 3, 1) := by decide +kernel
theorem dX3_numberOf_11 : decode cX3_numberOf 11 = .ok (.iaload, 1) := by decide +kernel
theorem dX3_numberOf_12 : decode cX3_numberOf 12 = .ok (.ifCond .lt 10, 3) := by decide +kernel
theorem dX3_numberOf_15 : decode cX3_numberOf 15 = .ok (.aload_n 0, 1) := by decide +kernel
theorem dX3_numberOf_16 : decode cX3_numberOf 16 = .ok (.getfield 30, 3) := by decide +kernel
theorem dX3_numberOf_19 : decode cX3_numberOf 19 = .ok (.iload_n 3, 1) := by decide +kernel
theorem dX3_numberOf_20 : decode cX3_numberOf 20 = .ok (.iaload, 1) := by decide +kernel
theorem dX3_numberOf_21 : decode cX3_numberOf 21 = .ok (.ireturn, 1) := by decide +kernel
theorem dX3_numberOf_22 : decode cX3_numberOf 22 = .ok (.aload_n 0, 1) := by decide +kernel
theorem dX3_numberOf_23 : decode cX3_numberOf 23 = .ok (.getfield 36, 3) := by decide +kernel
theorem dX3_numberOf_26 : decode cX3_numberOf 26 = .ok (.sipush 400, 3) := by decide +kernel
theorem dX3_numberOf_29 : decode cX3_numberOf 29 = .ok (.if_icmp .lt 5, 3) := by decide +kernel
theorem dX3_numberOf_32 : decode cX3_numberOf 32 = .ok (.iconst (-1), 1) := by decide +kernel
theorem dX3_numberOf_33 : decode cX3_numberOf 33 = .ok (.ireturn, 1) := by decide +kernel
theorem dX3_numberOf_34 : decode cX3_numberOf 34 = .ok (.aload_n 0, 1) := by decide +kernel
theorem dX3_numberOf_35 : decode cX3_numberOf 35 = .ok (.iload_n 1, 1) := by decide +kernel
theorem dX3_numberOf_36 : decode cX3_numberOf 36 = .ok (.iload_n 3, 1) := by decide +kernel
theorem dX3_numberOf_37 : decode cX3_numberOf 37 = .ok (.iload_n 2, 1) := by decide +kernel
theorem dX3_numberOf_38 : decode cX3_numberOf 38 = .ok (.aload_n 0, 1) := by decide +kernel
theorem dX3_numberOf_39 : decode cX3_numberOf 39 = .ok (.getfield 15, 3) := by decide +kernel
theorem dX3_numberOf_42 : decode cX3_numberOf 42 = .ok (.iload_n 2, 1) := by decide +kernel
theorem dX3_numberOf_43 : decode cX3_numberOf 43 = .ok (.iaload, 1) := by decide +kernel
theorem dX3_numberOf_44 : decode cX3_numberOf 44 = .ok (.iconst 1, 1) := by decide +kernel
theorem dX3_numberOf_45 : decode cX3_numberOf 45 = .ok (.iadd, 1) := by decide +kernel
theorem dX3_numberOf_46 : decode cX3_numberOf 46 = .ok (.invokevirtual 70, 3) := by decide +kernel
theorem dX3_numberOf_49 : decode cX3_numberOf 49 = .ok (.aload_n 0, 1) := by decide +kernel
theorem dX3_numberOf_50 : decode cX3_numberOf 50 = .ok (.getfield 36, 3) := by decide +kernel
theorem dX3_numberOf_53 : decode cX3_numberOf 53 = .ok (.iconst 1, 1) := by decide +kernel
theorem dX3_numberOf_54 : decode cX3_numberOf 54 = .ok (.isub, 1) := by decide +kernel
theorem dX3_numberOf_55 : decode cX3_numberOf 55 = .ok (.ireturn, 1) := by decide +kernel
theorem dX3_newState_0 : decode cX3_newState 0 = .ok (.aload_n 0, 1) := by decide +kernel
theorem dX3_newState_1 : decode cX3_newState 1 = .ok (.getfield 11, 3) := by decide +kernel
theorem dX3_newState_4 : decode cX3_newState 4 = .ok (.aload_n 0, 1) := by decide +kernel
theorem dX3_newState_5 : decode cX3_newState 5 = .ok (.getfield 36, 3) := by decide +kernel
theorem dX3_newState_8 : decode cX3_newState 8 = .ok (.iload_n 1, 1) := by decide +kernel
theorem dX3_newState_9 : decode cX3_newState 9 = .ok (.iastore, 1) := by decide +kernel
theorem dX3_newState_10 : decode cX3_newState 10 = .ok (.aload_n 0, 1) := by decide +kernel
theorem dX3_newState_11 : decode cX3_newState 11 = .ok (.getfield 15, 3) := by decide +kernel
theorem dX3_newState_14 : decode cX3_newState 14 = .ok (.aload_n 0, 1) := by decide +kernel
theorem dX3_newState_15 : decode cX3_newState 15 = .ok (.getfield 36, 3) := by decide +kernel
theorem dX3_newState_18 : decode cX3_newState 18 = .ok (.iload 4, 2) := by decide +kernel
theorem dX3_newState_20 : decode cX3_newState 20 = .ok (.iastore, 1) := by decide +kernel
theorem dX3_newState_21 : decode cX3_newState 21 = .ok (.aload_n 0, 1) := by decide +kernel
theorem dX3_newState_22 : decode cX3_newState 22 = .ok (.getfield 18, 3) := by decide +kernel
theorem dX3_newState_25 : decode cX3_newState 25 = .ok (.aload_n 0, 1) := by decide +kernel
theorem dX3_newState_26 : decode cX3_newState 26 = .ok (.getfield 36, 3) := by decide +kernel
theorem dX3_newState_29 : decode cX3_newState 29 = .ok (.iload_n 3, 1) := by decide +kernel
theorem dX3_newState_30 : decode cX3_newState 30 = .ok (.iastore, 1) := by decide +kernel
theorem dX3_newState_31 : decode cX3_newState 31 = .ok (.aload_n 0, 1) := by decide +kernel
theorem dX3_newState_32 : decode cX3_newState 32 = .ok (.getfield 21, 3) := by decide +kernel
theorem dX3_newState_35 : decode cX3_newState 35 = .ok (.aload_n 0, 1) := by decide +kernel
theorem dX3_newState_36 : decode cX3_newState 36 = .ok (.getfield 36, 3) := by decide +kernel
theorem dX3_newState_39 : decode cX3_newState 39 = .ok (.aload_n 0, 1) := by decide +kernel
theorem dX3_newState_40 : decode cX3_newState 40 = .ok (.getfield 44, 3) := by decide +kernel
theorem dX3_newState_43 : decode cX3_newState 43 = .ok (.aload_n 0, 1) := by decide +kernel
theorem dX3_newState_44 : decode cX3_newState 44 = .ok (.getfield 27, 3) := by decide +kernel
theorem dX3_newState_47 : decode cX3_newState 47 = .ok (.iload_n 3, 1) := by decide +kernel
theorem dX3_newState_48 : decode cX3_newState 48 = .ok (.iaload, 1) := by decide +kernel
theorem dX3_newState_49 : decode cX3_newState 49 = .ok (.isub, 1) := by decide +kernel
theorem dX3_newState_50 : decode cX3_newState 50 = .ok (.iastore, 1) := by decide +kernel
theorem dX3_newState_51 : decode cX3_newState 51 = .ok (.aload_n 0, 1) := by decide +kernel
theorem dX3_newState_52 : decode cX3_newState 52 = .ok (.getfield 30, 3) := by decide +kernel
theorem dX3_newState_55 : decode cX3_newState 55 = .ok (.iload_n 2, 1) := by decide +kernel
theorem dX3_newState_56 : decode cX3_newState 56 = .ok (.aload_n 0, 1) := by decide +kernel
theorem dX3_newState_57 : decode cX3_newState 57 = .ok (.getfield 36, 3) := by decide +kernel
theorem dX3_newState_60 : decode cX3_newState 60 = .ok (.iastore, 1) := by decide +kernel
theorem dX3_newState_61 : decode cX3_newState 61 = .ok (.aload_n 0, 1) := by decide +kernel
theorem dX3_newState_62 : decode cX3_newState 62 = .ok (.dup, 1) := by decide +kernel
theorem dX3_newState_63 : decode cX3_newState 63 = .ok (.getfield 36, 3) := by decide +kernel
theorem dX3_newState_66 : decode cX3_newState 66 = .ok (.iconst 1, 1) := by decide +kernel
theorem dX3_newState_67 : decode cX3_newState 67 = .ok (.iadd, 1) := by decide +kernel
theorem dX3_newState_68 : decode cX3_newState 68 = .ok (.putfield 36, 3) := by decide +kernel
theorem dX3_newState_71 : decode cX3_newState 71 = .ok (.return_, 1) := by decide +kernel
theorem dX3_slotOf_0 : decode cX3_slotOf 0 = .ok (.iload_n 1, 1) := by decide +kernel
theorem dX3_slotOf_1 : decode cX3_slotOf 1 = .ok (.ldc 140, 2) := by decide +kernel
theorem dX3_slotOf_3 : decode cX3_slotOf 3 = .ok (.imul, 1) := by decide +kernel
theorem dX3_slotOf_4 : decode cX3_slotOf 4 = .ok (.bipush 22, 2) := by decide +kernel
theorem dX3_slotOf_6 : decode cX3_slotOf 6 = .ok (.iushr, 1) := by decide +kernel
theorem dX3_slotOf_7 : decode cX3_slotOf 7 = .ok (.istore_n 2, 1) := by decide +kernel
theorem dX3_slotOf_8 : decode cX3_slotOf 8 = .ok (.iconst 0, 1) := by decide +kernel
theorem dX3_slotOf_9 : decode cX3_slotOf 9 = .ok (.istore_n 3, 1) := by decide +kernel
theorem dX3_slotOf_10 : decode cX3_slotOf 10 = .ok (.iload_n 3, 1) := by decide +kernel
theorem dX3_slotOf_11 : decode cX3_slotOf 11 = .ok (.sipush 1024, 3) := by decide +kernel
theorem dX3_slotOf_14 : decode cX3_slotOf 14 = .ok (.if_icmp .ge 41, 3) := by decide +kernel
theorem dX3_slotOf_17 : decode cX3_slotOf 17 = .ok (.aload_n 0, 1) := by decide +kernel
theorem dX3_slotOf_18 : decode cX3_slotOf 18 = .ok (.getfield 30, 3) := by decide +kernel
theorem dX3_slotOf_21 : decode cX3_slotOf 21 = .ok (.iload_n 2, 1) := by decide +kernel
theorem dX3_slotOf_22 : decode cX3_slotOf 22 = .ok (.iaload, 1) := by decide +kernel
theorem dX3_slotOf_23 : decode cX3_slotOf 23 = .ok (.ifCond .lt 32, 3) := by decide +kernel
theorem dX3_slotOf_26 : decode cX3_slotOf 26 = .ok (.aload_n 0, 1) := by decide +kernel
theorem dX3_slotOf_27 : decode cX3_slotOf 27 = .ok (.getfield 11, 3) := by decide +kernel
theorem dX3_slotOf_30 : decode cX3_slotOf 30 = .ok (.aload_n 0, 1) := by decide +kernel
theorem dX3_slotOf_31 : decode cX3_slotOf 31 = .ok (.getfield 30, 3) := by decide +kernel
theorem dX3_slotOf_34 : decode cX3_slotOf 34 = .ok (.iload_n 2, 1) := by decide +kernel
theorem dX3_slotOf_35 : decode cX3_slotOf 35 = .ok (.iaload, 1) := by decide +kernel
theorem dX3_slotOf_36 : decode cX3_slotOf 36 = .ok (.iaload, 1) := by decide +kernel
theorem dX3_slotOf_37 : decode cX3_slotOf 37 = .ok (.iload_n 1, 1) := by decide +kernel
theorem dX3_slotOf_38 : decode cX3_slotOf 38 = .ok (.if_icmp .eq 17, 3) := by decide +kernel
theorem dX3_slotOf_41 : decode cX3_slotOf 41 = .ok (.iload_n 2, 1) := by decide +kernel
theorem dX3_slotOf_42 : decode cX3_slotOf 42 = .ok (.iconst 1, 1) := by decide +kernel
theorem dX3_slotOf_43 : decode cX3_slotOf 43 = .ok (.iadd, 1) := by decide +kernel
theorem dX3_slotOf_44 : decode cX3_slotOf 44 = .ok (.sipush 1023, 3) := by decide +kernel
theorem dX3_slotOf_47 : decode cX3_slotOf 47 = .ok (.iand, 1) := by decide +kernel
theorem dX3_slotOf_48 : decode cX3_slotOf 48 = .ok (.istore_n 2, 1) := by decide +kernel
theorem dX3_slotOf_49 : decode cX3_slotOf 49 = .ok (.iinc 3 1, 3) := by decide +kernel
theorem dX3_slotOf_52 : decode cX3_slotOf 52 = .ok (.goto (-42), 3) := by decide +kernel
theorem dX3_slotOf_55 : decode cX3_slotOf 55 = .ok (.iload_n 2, 1) := by decide +kernel
theorem dX3_slotOf_56 : decode cX3_slotOf 56 = .ok (.ireturn, 1) := by decide +kernel
theorem dX4_init_0 : decode cX4_init 0 = .ok (.aload_n 0, 1) := by decide +kernel
theorem dX4_init_1 : decode cX4_init 1 = .ok (.invokespecial 3, 3) := by decide +kernel
theorem dX4_init_4 : decode cX4_init 4 = .ok (.aload_n 0, 1) := by decide +kernel
theorem dX4_init_5 : decode cX4_init 5 = .ok (.sipush 400, 3) := by decide +kernel
theorem dX4_init_8 : decode cX4_init 8 = .ok (.newarray .boolean, 2) := by decide +kernel
theorem dX4_init_10 : decode cX4_init 10 = .ok (.putfield 9, 3) := by decide +kernel
theorem dX4_init_13 : decode cX4_init 13 = .ok (.aload_n 0, 1) := by decide +kernel
theorem dX4_init_14 : decode cX4_init 14 = .ok (.sipush 400, 3) := by decide +kernel
theorem dX4_init_17 : decode cX4_init 17 = .ok (.newarray .boolean, 2) := by decide +kernel
theorem dX4_init_19 : decode cX4_init 19 = .ok (.putfield 15, 3) := by decide +kernel
theorem dX4_init_22 : decode cX4_init 22 = .ok (.aload_n 0, 1) := by decide +kernel
theorem dX4_init_23 : decode cX4_init 23 = .ok (.sipush 400, 3) := by decide +kernel
theorem dX4_init_26 : decode cX4_init 26 = .ok (.newarray .boolean, 2) := by decide +kernel
theorem dX4_init_28 : decode cX4_init 28 = .ok (.putfield 18, 3) := by decide +kernel
theorem dX4_init_31 : decode cX4_init 31 = .ok (.aload_n 0, 1) := by decide +kernel
theorem dX4_init_32 : decode cX4_init 32 = .ok (.sipush 400, 3) := by decide +kernel
theorem dX4_init_35 : decode cX4_init 35 = .ok (.newarray .int, 2) := by decide +kernel
theorem dX4_init_37 : decode cX4_init 37 = .ok (.putfield 21, 3) := by decide +kernel
theorem dX4_init_40 : decode cX4_init 40 = .ok (.aload_n 0, 1) := by decide +kernel
theorem dX4_init_41 : decode cX4_init 41 = .ok (.sipush 400, 3) := by decide +kernel
theorem dX4_init_44 : decode cX4_init 44 = .ok (.newarray .int, 2) := by decide +kernel
theorem dX4_init_46 : decode cX4_init 46 = .ok (.putfield 25, 3) := by decide +kernel
theorem dX4_init_49 : decode cX4_init 49 = .ok (.aload_n 0, 1) := by decide +kernel
theorem dX4_init_50 : decode cX4_init 50 = .ok (.sipush 400, 3) := by decide +kernel
theorem dX4_init_53 : decode cX4_init 53 = .ok (.newarray .int, 2) := by decide +kernel
theorem dX4_init_55 : decode cX4_init 55 = .ok (.putfield 28, 3) := by decide +kernel
theorem dX4_init_58 : decode cX4_init 58 = .ok (.aload_n 0, 1) := by decide +kernel
theorem dX4_init_59 : decode cX4_init 59 = .ok (.sipush 400, 3) := by decide +kernel
theorem dX4_init_62 : decode cX4_init 62 = .ok (.newarray .int, 2) := by decide +kernel
theorem dX4_init_64 : decode cX4_init 64 = .ok (.putfield 31, 3) := by decide +kernel
theorem dX4_init_67 : decode cX4_init 67 = .ok (.aload_n 0, 1) := by decide +kernel
theorem dX4_init_68 : decode cX4_init 68 = .ok (.sipush 400, 3) := by decide +kernel
theorem dX4_init_71 : decode cX4_init 71 = .ok (.newarray .int, 2) := by decide +kernel
theorem dX4_init_73 : decode cX4_init 73 = .ok (.putfield 34, 3) := by decide +kernel
theorem dX4_init_76 : decode cX4_init 76 = .ok (.aload_n 0, 1) := by decide +kernel
theorem dX4_init_77 : decode cX4_init 77 = .ok (.iconst (-1), 1) := by decide +kernel
theorem dX4_init_78 : decode cX4_init 78 = .ok (.putfield 37, 3) := by decide +kernel
theorem dX4_init_81 : decode cX4_init 81 = .ok (.return_, 1) := by decide +kernel
theorem dX4_forget_0 : decode cX4_forget 0 = .ok (.aload_n 0, 1) := by decide +kernel
theorem dX4_forget_1 : decode cX4_forget 1 = .ok (.iconst (-1), 1) := by decide +kernel
theorem dX4_forget_2 : decode cX4_forget 2 = .ok (.putfield 37, 3) := by decide +kernel
theorem dX4_forget_5 : decode cX4_forget 5 = .ok (.return_, 1) := by decide +kernel
theorem dX4_isBadState_0 : decode cX4_isBadState 0 = .ok (.aload_n 0, 1) := by decide +kernel
theorem dX4_isBadState_1 : decode cX4_isBadState 1 = .ok (.getfield 18, 3) := by decide +kernel
theorem dX4_isBadState_4 : decode cX4_isBadState 4 = .ok (.iload_n 1, 1) := by decide +kernel
theorem dX4_isBadState_5 : decode cX4_isBadState 5 = .ok (.baload, 1) := by decide +kernel
theorem dX4_isBadState_6 : decode cX4_isBadState 6 = .ok (.ireturn, 1) := by decide +kernel
theorem dX4_lookFor_0 : decode cX4_lookFor 0 = .ok (.iload_n 1, 1) := by decide +kernel
theorem dX4_lookFor_1 : decode cX4_lookFor 1 = .ok (.aload_n 0, 1) := by decide +kernel
theorem dX4_lookFor_2 : decode cX4_lookFor 2 = .ok (.getfield 37, 3) := by decide +kernel
theorem dX4_lookFor_5 : decode cX4_lookFor 5 = .ok (.if_icmp .ne 4, 3) := by decide +kernel
theorem dX4_lookFor_8 : decode cX4_lookFor 8 = .ok (.return_, 1) := by decide +kernel
theorem dX4_lookFor_9 : decode cX4_lookFor 9 = .ok (.aload_n 0, 1) := by decide +kernel
theorem dX4_lookFor_10 : decode cX4_lookFor 10 = .ok (.iload_n 1, 1) := by decide +kernel
theorem dX4_lookFor_11 : decode cX4_lookFor 11 = .ok (.aload_n 2, 1) := by decide +kernel
theorem dX4_lookFor_12 : decode cX4_lookFor 12 = .ok (.aload_n 3, 1) := by decide +kernel
theorem dX4_lookFor_13 : decode cX4_lookFor 13 = .ok (.invokevirtual 41, 3) := by decide +kernel
theorem dX4_lookFor_16 : decode cX4_lookFor 16 = .ok (.iconst 1, 1) := by decide +kernel
theorem dX4_lookFor_17 : decode cX4_lookFor 17 = .ok (.iload 4, 2) := by decide +kernel
theorem dX4_lookFor_19 : decode cX4_lookFor 19 = .ok (.ishl, 1) := by decide +kernel
theorem dX4_lookFor_20 : decode cX4_lookFor 20 = .ok (.iconst 1, 1) := by decide +kernel
theorem dX4_lookFor_21 : decode cX4_lookFor 21 = .ok (.isub, 1) := by decide +kernel
theorem dX4_lookFor_22 : decode cX4_lookFor 22 = .ok (.istore 5, 2) := by decide +kernel
theorem dX4_lookFor_24 : decode cX4_lookFor 24 = .ok (.iconst 0, 1) := by decide +kernel
theorem dX4_lookFor_25 : decode cX4_lookFor 25 = .ok (.istore 6, 2) := by decide +kernel
theorem dX4_lookFor_27 : decode cX4_lookFor 27 = .ok (.iload 6, 2) := by decide +kernel
theorem dX4_lookFor_29 : decode cX4_lookFor 29 = .ok (.aload_n 2, 1) := by decide +kernel
theorem dX4_lookFor_30 : decode cX4_lookFor 30 = .ok (.getfield 45, 3) := by decide +kernel
theorem dX4_lookFor_33 : decode cX4_lookFor 33 = .ok (.if_icmp .ge 38, 3) := by decide +kernel
theorem dX4_lookFor_36 : decode cX4_lookFor 36 = .ok (.aload_n 0, 1) := by decide +kernel
theorem dX4_lookFor_37 : decode cX4_lookFor 37 = .ok (.getfield 9, 3) := by decide +kernel
theorem dX4_lookFor_40 : decode cX4_lookFor 40 = .ok (.iload 6, 2) := by decide +kernel
theorem dX4_lookFor_42 : decode cX4_lookFor 42 = .ok (.baload, 1) := by decide +kernel
theorem dX4_lookFor_43 : decode cX4_lookFor 43 = .ok (.ifCond .eq 22, 3) := by decide +kernel
theorem dX4_lookFor_46 : decode cX4_lookFor 46 = .ok (.aload_n 0, 1) := by decide +kernel
theorem dX4_lookFor_47 : decode cX4_lookFor 47 = .ok (.getfield 21, 3) := by decide +kernel
theorem dX4_lookFor_50 : decode cX4_lookFor 50 = .ok (.iload 6, 2) := by decide +kernel
theorem dX4_lookFor_52 : decode cX4_lookFor 52 = .ok (.iaload, 1) := by decide +kernel
theorem dX4_lookFor_53 : decode cX4_lookFor 53 = .ok (.ifCond .ne 12, 3) := by decide +kernel
theorem dX4_lookFor_56 : decode cX4_lookFor 56 = .ok (.aload_n 0, 1) := by decide +kernel
theorem dX4_lookFor_57 : decode cX4_lookFor 57 = .ok (.iload 6, 2) := by decide +kernel
theorem dX4_lookFor_59 : decode cX4_lookFor 59 = .ok (.aload_n 2, 1) := by decide +kernel
theorem dX4_lookFor_60 : decode cX4_lookFor 60 = .ok (.iload 5, 2) := by decide +kernel
theorem dX4_lookFor_62 : decode cX4_lookFor 62 = .ok (.invokevirtual 50, 3) := by decide +kernel
theorem dX4_lookFor_65 : decode cX4_lookFor 65 = .ok (.iinc 6 1, 3) := by decide +kernel
theorem dX4_lookFor_68 : decode cX4_lookFor 68 = .ok (.goto (-41), 3) := by decide +kernel
theorem dX4_lookFor_71 : decode cX4_lookFor 71 = .ok (.aload_n 0, 1) := by decide +kernel
theorem dX4_lookFor_72 : decode cX4_lookFor 72 = .ok (.iload_n 1, 1) := by decide +kernel
theorem dX4_lookFor_73 : decode cX4_lookFor 73 = .ok (.putfield 37, 3) := by decide +kernel
theorem dX4_lookFor_76 : decode cX4_lookFor 76 = .ok (.return_, 1) := by decide +kernel
theorem dX4_begin_0 : decode cX4_begin 0 = .ok (.iconst 0, 1) := by decide +kernel
theorem dX4_begin_1 : decode cX4_begin 1 = .ok (.istore 4, 2) := by decide +kernel
theorem dX4_begin_3 : decode cX4_begin 3 = .ok (.iload 4, 2) := by decide +kernel
theorem dX4_begin_5 : decode cX4_begin 5 = .ok (.aload_n 2, 1) := by decide +kernel
theorem dX4_begin_6 : decode cX4_begin 6 = .ok (.getfield 45, 3) := by decide +kernel
theorem dX4_begin_9 : decode cX4_begin 9 = .ok (.if_icmp .ge 59, 3) := by decide +kernel
theorem dX4_begin_12 : decode cX4_begin 12 = .ok (.aload_n 0, 1) := by decide +kernel
theorem dX4_begin_13 : decode cX4_begin 13 = .ok (.getfield 9, 3) := by decide +kernel
theorem dX4_begin_16 : decode cX4_begin 16 = .ok (.iload 4, 2) := by decide +kernel
theorem dX4_begin_18 : decode cX4_begin 18 = .ok (.aload_n 3, 1) := by decide +kernel
theorem dX4_begin_19 : decode cX4_begin 19 = .ok (.iload_n 1, 1) := by decide +kernel
theorem dX4_begin_20 : decode cX4_begin 20 = .ok (.aload_n 2, 1) := by decide +kernel
theorem dX4_begin_21 : decode cX4_begin 21 = .ok (.iload 4, 2) := by decide +kernel
theorem dX4_begin_23 : decode cX4_begin 23 = .ok (.invokevirtual 54, 3) := by decide +kernel
theorem dX4_begin_26 : decode cX4_begin 26 = .ok (.invokevirtual 58, 3) := by decide +kernel
theorem dX4_begin_29 : decode cX4_begin 29 = .ok (.ifCond .ne 7, 3) := by decide +kernel
theorem dX4_begin_32 : decode cX4_begin 32 = .ok (.iconst 1, 1) := by decide +kernel
theorem dX4_begin_33 : decode cX4_begin 33 = .ok (.goto 4, 3) := by decide +kernel
theorem dX4_begin_36 : decode cX4_begin 36 = .ok (.iconst 0, 1) := by decide +kernel
theorem dX4_begin_37 : decode cX4_begin 37 = .ok (.bastore, 1) := by decide +kernel
theorem dX4_begin_38 : decode cX4_begin 38 = .ok (.aload_n 0, 1) := by decide +kernel
theorem dX4_begin_39 : decode cX4_begin 39 = .ok (.getfield 15, 3) := by decide +kernel
theorem dX4_begin_42 : decode cX4_begin 42 = .ok (.iload 4, 2) := by decide +kernel
theorem dX4_begin_44 : decode cX4_begin 44 = .ok (.iconst 0, 1) := by decide +kernel
theorem dX4_begin_45 : decode cX4_begin 45 = .ok (.bastore, 1) := by decide +kernel
theorem dX4_begin_46 : decode cX4_begin 46 = .ok (.aload_n 0, 1) := by decide +kernel
theorem dX4_begin_47 : decode cX4_begin 47 = .ok (.getfield 18, 3) := by decide +kernel
theorem dX4_begin_50 : decode cX4_begin 50 = .ok (.iload 4, 2) := by decide +kernel
theorem dX4_begin_52 : decode cX4_begin 52 = .ok (.iconst 0, 1) := by decide +kernel
theorem dX4_begin_53 : decode cX4_begin 53 = .ok (.bastore, 1) := by decide +kernel
theorem dX4_begin_54 : decode cX4_begin 54 = .ok (.aload_n 0, 1) := by decide +kernel
theorem dX4_begin_55 : decode cX4_begin 55 = .ok (.getfield 21, 3) := by decide +kernel
theorem dX4_begin_58 : decode cX4_begin 58 = .ok (.iload 4, 2) := by decide +kernel
theorem dX4_begin_60 : decode cX4_begin 60 = .ok (.iconst 0, 1) := by decide +kernel
theorem dX4_begin_61 : decode cX4_begin 61 = .ok (.iastore, 1) := by decide +kernel
theorem dX4_begin_62 : decode cX4_begin 62 = .ok (.iinc 4 1, 3) := by decide +kernel
theorem dX4_begin_65 : decode cX4_begin 65 = .ok (.goto (-62), 3) := by decide +kernel
theorem dX4_begin_68 : decode cX4_begin 68 = .ok (.aload_n 0, 1) := by decide +kernel
theorem dX4_begin_69 : decode cX4_begin 69 = .ok (.iconst 0, 1) := by decide +kernel
theorem dX4_begin_70 : decode cX4_begin 70 = .ok (.putfield 64, 3) := by decide +kernel
theorem dX4_begin_73 : decode cX4_begin 73 = .ok (.aload_n 0, 1) := by decide +kernel
theorem dX4_begin_74 : decode cX4_begin 74 = .ok (.iconst 0, 1) := by decide +kernel
theorem dX4_begin_75 : decode cX4_begin 75 = .ok (.putfield 67, 3) := by decide +kernel
theorem dX4_begin_78 : decode cX4_begin 78 = .ok (.aload_n 0, 1) := by decide +kernel
theorem dX4_begin_79 : decode cX4_begin 79 = .ok (.iconst 0, 1) := by decide +kernel
theorem dX4_begin_80 : decode cX4_begin 80 = .ok (.putfield 70, 3) := by decide +kernel
theorem dX4_begin_83 : decode cX4_begin 83 = .ok (.aload_n 0, 1) := by decide +kernel
theorem dX4_begin_84 : decode cX4_begin 84 = .ok (.iconst 0, 1) := by decide +kernel
theorem dX4_begin_85 : decode cX4_begin 85 = .ok (.putfield 73, 3) := by decide +kernel
theorem dX4_begin_88 : decode cX4_begin 88 = .ok (.return_, 1) := by decide +kernel
theorem dX4_walkFrom_0 : decode cX4_walkFrom 0 = .ok (.aload_n 0, 1) := by decide +kernel
theorem dX4_walkFrom_1 : decode cX4_walkFrom 1 = .ok (.iload_n 1, 1) := by decide +kernel
theorem dX4_walkFrom_2 : decode cX4_walkFrom 2 = .ok (.invokevirtual 76, 3) := by decide +kernel
theorem dX4_walkFrom_5 : decode cX4_walkFrom 5 = .ok (.aload_n 2, 1) := by decide +kernel
theorem dX4_walkFrom_6 : decode cX4_walkFrom 6 = .ok (.getfield 80, 3) := by decide +kernel
theorem dX4_walkFrom_9 : decode cX4_walkFrom 9 = .ok (.aload_n 2, 1) := by decide +kernel
theorem dX4_walkFrom_10 : decode cX4_walkFrom 10 = .ok (.getfield 45, 3) := by decide +kernel
theorem dX4_walkFrom_13 : decode cX4_walkFrom 13 = .ok (.iadd, 1) := by decide +kernel
theorem dX4_walkFrom_14 : decode cX4_walkFrom 14 = .ok (.istore 4, 2) := by decide +kernel
theorem dX4_walkFrom_16 : decode cX4_walkFrom 16 = .ok (.iconst 0, 1) := by decide +kernel
theorem dX4_walkFrom_17 : decode cX4_walkFrom 17 = .ok (.istore 5, 2) := by decide +kernel
theorem dX4_walkFrom_19 : decode cX4_walkFrom 19 = .ok (.iload 5, 2) := by decide +kernel
theorem dX4_walkFrom_21 : decode cX4_walkFrom 21 = .ok (.iload 4, 2) := by decide +kernel
theorem dX4_walkFrom_23 : decode cX4_walkFrom 23 = .ok (.if_icmp .ge 117, 3) := by decide +kernel
theorem dX4_walkFrom_26 : decode cX4_walkFrom 26 = .ok (.aload_n 0, 1) := by decide +kernel
theorem dX4_walkFrom_27 : decode cX4_walkFrom 27 = .ok (.getfield 64, 3) := by decide +kernel
theorem dX4_walkFrom_30 : decode cX4_walkFrom 30 = .ok (.ifCond .le 110, 3) := by decide +kernel
theorem dX4_walkFrom_33 : decode cX4_walkFrom 33 = .ok (.aload_n 0, 1) := by decide +kernel
theorem dX4_walkFrom_34 : decode cX4_walkFrom 34 = .ok (.getfield 31, 3) := by decide +kernel
theorem dX4_walkFrom_37 : decode cX4_walkFrom 37 = .ok (.aload_n 0, 1) := by decide +kernel
theorem dX4_walkFrom_38 : decode cX4_walkFrom 38 = .ok (.getfield 64, 3) := by decide +kernel
theorem dX4_walkFrom_41 : decode cX4_walkFrom 41 = .ok (.iconst 1, 1) := by decide +kernel
theorem dX4_walkFrom_42 : decode cX4_walkFrom 42 = .ok (.isub, 1) := by decide +kernel
theorem dX4_walkFrom_43 : decode cX4_walkFrom 43 = .ok (.iaload, 1) := by decide +kernel
theorem dX4_walkFrom_44 : decode cX4_walkFrom 44 = .ok (.istore 6, 2) := by decide +kernel
theorem dX4_walkFrom_46 : decode cX4_walkFrom 46 = .ok (.aload_n 0, 1) := by decide +kernel
theorem dX4_walkFrom_47 : decode cX4_walkFrom 47 = .ok (.getfield 28, 3) := by decide +kernel
theorem dX4_walkFrom_50 : decode cX4_walkFrom 50 = .ok (.iload 6, 2) := by decide +kernel
theorem dX4_walkFrom_52 : decode cX4_walkFrom 52 = .ok (.iaload, 1) := by decide +kernel
theorem dX4_walkFrom_53 : decode cX4_walkFrom 53 = .ok (.aload_n 2, 1) := by decide +kernel
theorem dX4_walkFrom_54 : decode cX4_walkFrom 54 = .ok (.iload 6, 2) := by decide +kernel
theorem dX4_walkFrom_56 : decode cX4_walkFrom 56 = .ok (.invokevirtual 83, 3) := by decide +kernel
theorem dX4_walkFrom_59 : decode cX4_walkFrom 59 = .ok (.if_icmp .ge 44, 3) := by decide +kernel
theorem dX4_walkFrom_62 : decode cX4_walkFrom 62 = .ok (.aload_n 2, 1) := by decide +kernel
theorem dX4_walkFrom_63 : decode cX4_walkFrom 63 = .ok (.iload 6, 2) := by decide +kernel
theorem dX4_walkFrom_65 : decode cX4_walkFrom 65 = .ok (.aload_n 0, 1) := by decide +kernel
theorem dX4_walkFrom_66 : decode cX4_walkFrom 66 = .ok (.getfield 28, 3) := by decide +kernel
theorem dX4_walkFrom_69 : decode cX4_walkFrom 69 = .ok (.iload 6, 2) := by decide +kernel
theorem dX4_walkFrom_71 : decode cX4_walkFrom 71 = .ok (.iaload, 1) := by decide +kernel
theorem dX4_walkFrom_72 : decode cX4_walkFrom 72 = .ok (.invokevirtual 86, 3) := by decide +kernel
theorem dX4_walkFrom_75 : decode cX4_walkFrom 75 = .ok (.istore 7, 2) := by decide +kernel
theorem dX4_walkFrom_77 : decode cX4_walkFrom 77 = .ok (.aload_n 0, 1) := by decide +kernel
theorem dX4_walkFrom_78 : decode cX4_walkFrom 78 = .ok (.getfield 28, 3) := by decide +kernel
theorem dX4_walkFrom_81 : decode cX4_walkFrom 81 = .ok (.iload 6, 2) := by decide +kernel
theorem dX4_walkFrom_83 : decode cX4_walkFrom 83 = .ok (.dup2, 1) := by decide +kernel
theorem dX4_walkFrom_84 : decode cX4_walkFrom 84 = .ok (.iaload, 1) := by decide +kernel
theorem dX4_walkFrom_85 : decode cX4_walkFrom 85 = .ok (.iconst 1, 1) := by decide +kernel
theorem dX4_walkFrom_86 : decode cX4_walkFrom 86 = .ok (.iadd, 1) := by decide +kernel
theorem dX4_walkFrom_87 : decode cX4_walkFrom 87 = .ok (.iastore, 1) := by decide +kernel
theorem dX4_walkFrom_88 : decode cX4_walkFrom 88 = .ok (.aload_n 0, 1) := by decide +kernel
theorem dX4_walkFrom_89 : decode cX4_walkFrom 89 = .ok (.iload 6, 2) := by decide +kernel
theorem dX4_walkFrom_91 : decode cX4_walkFrom 91 = .ok (.iload 7, 2) := by decide +kernel
theorem dX4_walkFrom_93 : decode cX4_walkFrom 93 = .ok (.iconst 0, 1) := by decide +kernel
theorem dX4_walkFrom_94 : decode cX4_walkFrom 94 = .ok (.invokestatic 90, 3) := by decide +kernel
theorem dX4_walkFrom_97 : decode cX4_walkFrom 97 = .ok (.invokevirtual 93, 3) := by decide +kernel
theorem dX4_walkFrom_100 : decode cX4_walkFrom 100 = .ok (.goto 34, 3) := by decide +kernel
theorem dX4_walkFrom_103 : decode cX4_walkFrom 103 = .ok (.aload_n 0, 1) := by decide +kernel
theorem dX4_walkFrom_104 : decode cX4_walkFrom 104 = .ok (.iload 6, 2) := by decide +kernel
theorem dX4_walkFrom_106 : decode cX4_walkFrom 106 = .ok (.invokevirtual 97, 3) := by decide +kernel
theorem dX4_walkFrom_109 : decode cX4_walkFrom 109 = .ok (.aload_n 0, 1) := by decide +kernel
theorem dX4_walkFrom_110 : decode cX4_walkFrom 110 = .ok (.getfield 25, 3) := by decide +kernel
theorem dX4_walkFrom_113 : decode cX4_walkFrom 113 = .ok (.iload 6, 2) := by decide +kernel
theorem dX4_walkFrom_115 : decode cX4_walkFrom 115 = .ok (.iaload, 1) := by decide +kernel
theorem dX4_walkFrom_116 : decode cX4_walkFrom 116 = .ok (.aload_n 0, 1) := by decide +kernel
theorem dX4_walkFrom_117 : decode cX4_walkFrom 117 = .ok (.getfield 21, 3) := by decide +kernel
theorem dX4_walkFrom_120 : decode cX4_walkFrom 120 = .ok (.iload 6, 2) := by decide +kernel
theorem dX4_walkFrom_122 : decode cX4_walkFrom 122 = .ok (.iaload, 1) := by decide +kernel
theorem dX4_walkFrom_123 : decode cX4_walkFrom 123 = .ok (.if_icmp .ne 11, 3) := by decide +kernel
theorem dX4_walkFrom_126 : decode cX4_walkFrom 126 = .ok (.aload_n 0, 1) := by decide +kernel
theorem dX4_walkFrom_127 : decode cX4_walkFrom 127 = .ok (.iload 6, 2) := by decide +kernel
theorem dX4_walkFrom_129 : decode cX4_walkFrom 129 = .ok (.aload_n 2, 1) := by decide +kernel
theorem dX4_walkFrom_130 : decode cX4_walkFrom 130 = .ok (.iload_n 3, 1) := by decide +kernel
theorem dX4_walkFrom_131 : decode cX4_walkFrom 131 = .ok (.invokevirtual 100, 3) := by decide +kernel
theorem dX4_walkFrom_134 : decode cX4_walkFrom 134 = .ok (.iinc 5 1, 3) := by decide +kernel
theorem dX4_walkFrom_137 : decode cX4_walkFrom 137 = .ok (.goto (-118), 3) := by decide +kernel
theorem dX4_walkFrom_140 : decode cX4_walkFrom 140 = .ok (.return_, 1) := by decide +kernel
theorem dX4_enter_0 : decode cX4_enter 0 = .ok (.aload_n 0, 1) := by decide +kernel
theorem dX4_enter_1 : decode cX4_enter 1 = .ok (.dup, 1) := by decide +kernel
theorem dX4_enter_2 : decode cX4_enter 2 = .ok (.getfield 70, 3) := by decide +kernel
theorem dX4_enter_5 : decode cX4_enter 5 = .ok (.iconst 1, 1) := by decide +kernel
theorem dX4_enter_6 : decode cX4_enter 6 = .ok (.iadd, 1) := by decide +kernel
theorem dX4_enter_7 : decode cX4_enter 7 = .ok (.putfield 70, 3) := by decide +kernel
theorem dX4_enter_10 : decode cX4_enter 10 = .ok (.aload_n 0, 1) := by decide +kernel
theorem dX4_enter_11 : decode cX4_enter 11 = .ok (.getfield 21, 3) := by decide +kernel
theorem dX4_enter_14 : decode cX4_enter 14 = .ok (.iload_n 1, 1) := by decide +kernel
theorem dX4_enter_15 : decode cX4_enter 15 = .ok (.aload_n 0, 1) := by decide +kernel
theorem dX4_enter_16 : decode cX4_enter 16 = .ok (.getfield 70, 3) := by decide +kernel
theorem dX4_enter_19 : decode cX4_enter 19 = .ok (.iastore, 1) := by decide +kernel
theorem dX4_enter_20 : decode cX4_enter 20 = .ok (.aload_n 0, 1) := by decide +kernel
theorem dX4_enter_21 : decode cX4_enter 21 = .ok (.getfield 25, 3) := by decide +kernel
theorem dX4_enter_24 : decode cX4_enter 24 = .ok (.iload_n 1, 1) := by decide +kernel
theorem dX4_enter_25 : decode cX4_enter 25 = .ok (.aload_n 0, 1) := by decide +kernel
theorem dX4_enter_26 : decode cX4_enter 26 = .ok (.getfield 70, 3) := by decide +kernel
theorem dX4_enter_29 : decode cX4_enter 29 = .ok (.iastore, 1) := by decide +kernel
theorem dX4_enter_30 : decode cX4_enter 30 = .ok (.aload_n 0, 1) := by decide +kernel
theorem dX4_enter_31 : decode cX4_enter 31 = .ok (.getfield 28, 3) := by decide +kernel
theorem dX4_enter_34 : decode cX4_enter 34 = .ok (.iload_n 1, 1) := by decide +kernel
theorem dX4_enter_35 : decode cX4_enter 35 = .ok (.iconst 0, 1) := by decide +kernel
theorem dX4_enter_36 : decode cX4_enter 36 = .ok (.iastore, 1) := by decide +kernel
theorem dX4_enter_37 : decode cX4_enter 37 = .ok (.aload_n 0, 1) := by decide +kernel
theorem dX4_enter_38 : decode cX4_enter 38 = .ok (.getfield 31, 3) := by decide +kernel
theorem dX4_enter_41 : decode cX4_enter 41 = .ok (.aload_n 0, 1) := by decide +kernel
theorem dX4_enter_42 : decode cX4_enter 42 = .ok (.getfield 64, 3) := by decide +kernel
theorem dX4_enter_45 : decode cX4_enter 45 = .ok (.iload_n 1, 1) := by decide +kernel
theorem dX4_enter_46 : decode cX4_enter 46 = .ok (.iastore, 1) := by decide +kernel
theorem dX4_enter_47 : decode cX4_enter 47 = .ok (.aload_n 0, 1) := by decide +kernel
theorem dX4_enter_48 : decode cX4_enter 48 = .ok (.dup, 1) := by decide +kernel
theorem dX4_enter_49 : decode cX4_enter 49 = .ok (.getfield 64, 3) := by decide +kernel
theorem dX4_enter_52 : decode cX4_enter 52 = .ok (.iconst 1, 1) := by decide +kernel
theorem dX4_enter_53 : decode cX4_enter 53 = .ok (.iadd, 1) := by decide +kernel
theorem dX4_enter_54 : decode cX4_enter 54 = .ok (.putfield 64, 3) := by decide +kernel
theorem dX4_enter_57 : decode cX4_enter 57 = .ok (.aload_n 0, 1) := by decide +kernel
theorem dX4_enter_58 : decode cX4_enter 58 = .ok (.getfield 34, 3) := by decide +kernel
theorem dX4_enter_61 : decode cX4_enter 61 = .ok (.aload_n 0, 1) := by decide +kernel
theorem dX4_enter_62 : decode cX4_enter 62 = .ok (.getfield 67, 3) := by decide +kernel
theorem dX4_enter_65 : decode cX4_enter 65 = .ok (.iload_n 1, 1) := by decide +kernel
theorem dX4_enter_66 : decode cX4_enter 66 = .ok (.iastore, 1) := by decide +kernel
theorem dX4_enter_67 : decode cX4_enter 67 = .ok (.aload_n 0, 1) := by decide +kernel
theorem dX4_enter_68 : decode cX4_enter 68 = .ok (.dup, 1) := by decide +kernel
theorem dX4_enter_69 : decode cX4_enter 69 = .ok (.getfield 67, 3) := by decide +kernel
theorem dX4_enter_72 : decode cX4_enter 72 = .ok (.iconst 1, 1) := by decide +kernel
theorem dX4_enter_73 : decode cX4_enter 73 = .ok (.iadd, 1) := by decide +kernel
theorem dX4_enter_74 : decode cX4_enter 74 = .ok (.putfield 67, 3) := by decide +kernel
theorem dX4_enter_77 : decode cX4_enter 77 = .ok (.aload_n 0, 1) := by decide +kernel
theorem dX4_enter_78 : decode cX4_enter 78 = .ok (.getfield 15, 3) := by decide +kernel
theorem dX4_enter_81 : decode cX4_enter 81 = .ok (.iload_n 1, 1) := by decide +kernel
theorem dX4_enter_82 : decode cX4_enter 82 = .ok (.iconst 1, 1) := by decide +kernel
theorem dX4_enter_83 : decode cX4_enter 83 = .ok (.bastore, 1) := by decide +kernel
theorem dX4_enter_84 : decode cX4_enter 84 = .ok (.return_, 1) := by decide +kernel
theorem dX4_follow_0 : decode cX4_follow 0 = .ok (.aload_n 0, 1) := by decide +kernel
theorem dX4_follow_1 : decode cX4_follow 1 = .ok (.getfield 9, 3) := by decide +kernel
theorem dX4_follow_4 : decode cX4_follow 4 = .ok (.iload_n 2, 1) := by decide +kernel
theorem dX4_follow_5 : decode cX4_follow 5 = .ok (.baload, 1) := by decide +kernel
theorem dX4_follow_6 : decode cX4_follow 6 = .ok (.ifCond .ne 4, 3) := by decide +kernel
theorem dX4_follow_9 : decode cX4_follow 9 = .ok (.return_, 1) := by decide +kernel
theorem dX4_follow_10 : decode cX4_follow 10 = .ok (.aload_n 0, 1) := by decide +kernel
theorem dX4_follow_11 : decode cX4_follow 11 = .ok (.getfield 21, 3) := by decide +kernel
theorem dX4_follow_14 : decode cX4_follow 14 = .ok (.iload_n 2, 1) := by decide +kernel
theorem dX4_follow_15 : decode cX4_follow 15 = .ok (.iaload, 1) := by decide +kernel
theorem dX4_follow_16 : decode cX4_follow 16 = .ok (.ifCond .ne 11, 3) := by decide +kernel
theorem dX4_follow_19 : decode cX4_follow 19 = .ok (.aload_n 0, 1) := by decide +kernel
theorem dX4_follow_20 : decode cX4_follow 20 = .ok (.iload_n 2, 1) := by decide +kernel
theorem dX4_follow_21 : decode cX4_follow 21 = .ok (.invokevirtual 76, 3) := by decide +kernel
theorem dX4_follow_24 : decode cX4_follow 24 = .ok (.goto 33, 3) := by decide +kernel
theorem dX4_follow_27 : decode cX4_follow 27 = .ok (.aload_n 0, 1) := by decide +kernel
theorem dX4_follow_28 : decode cX4_follow 28 = .ok (.getfield 15, 3) := by decide +kernel
theorem dX4_follow_31 : decode cX4_follow 31 = .ok (.iload_n 2, 1) := by decide +kernel
theorem dX4_follow_32 : decode cX4_follow 32 = .ok (.baload, 1) := by decide +kernel
theorem dX4_follow_33 : decode cX4_follow 33 = .ok (.ifCond .eq 24, 3) := by decide +kernel
theorem dX4_follow_36 : decode cX4_follow 36 = .ok (.aload_n 0, 1) := by decide +kernel
theorem dX4_follow_37 : decode cX4_follow 37 = .ok (.getfield 25, 3) := by decide +kernel
theorem dX4_follow_40 : decode cX4_follow 40 = .ok (.iload_n 1, 1) := by decide +kernel
theorem dX4_follow_41 : decode cX4_follow 41 = .ok (.aload_n 0, 1) := by decide +kernel
theorem dX4_follow_42 : decode cX4_follow 42 = .ok (.getfield 25, 3) := by decide +kernel
theorem dX4_follow_45 : decode cX4_follow 45 = .ok (.iload_n 1, 1) := by decide +kernel
theorem dX4_follow_46 : decode cX4_follow 46 = .ok (.iaload, 1) := by decide +kernel
theorem dX4_follow_47 : decode cX4_follow 47 = .ok (.aload_n 0, 1) := by decide +kernel
theorem dX4_follow_48 : decode cX4_follow 48 = .ok (.getfield 21, 3) := by decide +kernel
theorem dX4_follow_51 : decode cX4_follow 51 = .ok (.iload_n 2, 1) := by decide +kernel
theorem dX4_follow_52 : decode cX4_follow 52 = .ok (.iaload, 1) := by decide +kernel
theorem dX4_follow_53 : decode cX4_follow 53 = .ok (.invokestatic 103, 3) := by decide +kernel
theorem dX4_follow_56 : decode cX4_follow 56 = .ok (.iastore, 1) := by decide +kernel
theorem dX4_follow_57 : decode cX4_follow 57 = .ok (.return_, 1) := by decide +kernel
theorem dX4_leave_0 : decode cX4_leave 0 = .ok (.aload_n 0, 1) := by decide +kernel
theorem dX4_leave_1 : decode cX4_leave 1 = .ok (.dup, 1) := by decide +kernel
theorem dX4_leave_2 : decode cX4_leave 2 = .ok (.getfield 64, 3) := by decide +kernel
theorem dX4_leave_5 : decode cX4_leave 5 = .ok (.iconst 1, 1) := by decide +kernel
theorem dX4_leave_6 : decode cX4_leave 6 = .ok (.isub, 1) := by decide +kernel
theorem dX4_leave_7 : decode cX4_leave 7 = .ok (.putfield 64, 3) := by decide +kernel
theorem dX4_leave_10 : decode cX4_leave 10 = .ok (.aload_n 0, 1) := by decide +kernel
theorem dX4_leave_11 : decode cX4_leave 11 = .ok (.getfield 64, 3) := by decide +kernel
theorem dX4_leave_14 : decode cX4_leave 14 = .ok (.ifCond .le 36, 3) := by decide +kernel
theorem dX4_leave_17 : decode cX4_leave 17 = .ok (.aload_n 0, 1) := by decide +kernel
theorem dX4_leave_18 : decode cX4_leave 18 = .ok (.getfield 31, 3) := by decide +kernel
theorem dX4_leave_21 : decode cX4_leave 21 = .ok (.aload_n 0, 1) := by decide +kernel
theorem dX4_leave_22 : decode cX4_leave 22 = .ok (.getfield 64, 3) := by decide +kernel
theorem dX4_leave_25 : decode cX4_leave 25 = .ok (.iconst 1, 1) := by decide +kernel
theorem dX4_leave_26 : decode cX4_leave 26 = .ok (.isub, 1) := by decide +kernel
theorem dX4_leave_27 : decode cX4_leave 27 = .ok (.iaload, 1) := by decide +kernel
theorem dX4_leave_28 : decode cX4_leave 28 = .ok (.istore_n 2, 1) := by decide +kernel
theorem dX4_leave_29 : decode cX4_leave 29 = .ok (.aload_n 0, 1) := by decide +kernel
theorem dX4_leave_30 : decode cX4_leave 30 = .ok (.getfield 25, 3) := by decide +kernel
theorem dX4_leave_33 : decode cX4_leave 33 = .ok (.iload_n 2, 1) := by decide +kernel
theorem dX4_leave_34 : decode cX4_leave 34 = .ok (.aload_n 0, 1) := by decide +kernel
theorem dX4_leave_35 : decode cX4_leave 35 = .ok (.getfield 25, 3) := by decide +kernel
theorem dX4_leave_38 : decode cX4_leave 38 = .ok (.iload_n 2, 1) := by decide +kernel
theorem dX4_leave_39 : decode cX4_leave 39 = .ok (.iaload, 1) := by decide +kernel
theorem dX4_leave_40 : decode cX4_leave 40 = .ok (.aload_n 0, 1) := by decide +kernel
theorem dX4_leave_41 : decode cX4_leave 41 = .ok (.getfield 25, 3) := by decide +kernel
theorem dX4_leave_44 : decode cX4_leave 44 = .ok (.iload_n 1, 1) := by decide +kernel
theorem dX4_leave_45 : decode cX4_leave 45 = .ok (.iaload, 1) := by decide +kernel
theorem dX4_leave_46 : decode cX4_leave 46 = .ok (.invokestatic 103, 3) := by decide +kernel
theorem dX4_leave_49 : decode cX4_leave 49 = .ok (.iastore, 1) := by decide +kernel
theorem dX4_leave_50 : decode cX4_leave 50 = .ok (.return_, 1) := by decide +kernel
theorem dX4_close_0 : decode cX4_close 0 = .ok (.aload_n 0, 1) := by decide +kernel
theorem dX4_close_1 : decode cX4_close 1 = .ok (.iconst 0, 1) := by decide +kernel
theorem dX4_close_2 : decode cX4_close 2 = .ok (.putfield 108, 3) := by decide +kernel
theorem dX4_close_5 : decode cX4_close 5 = .ok (.aload_n 0, 1) := by decide +kernel
theorem dX4_close_6 : decode cX4_close 6 = .ok (.iconst 0, 1) := by decide +kernel
theorem dX4_close_7 : decode cX4_close 7 = .ok (.putfield 111, 3) := by decide +kernel
theorem dX4_close_10 : decode cX4_close 10 = .ok (.aload_n 0, 1) := by decide +kernel
theorem dX4_close_11 : decode cX4_close 11 = .ok (.getfield 67, 3) := by decide +kernel
theorem dX4_close_14 : decode cX4_close 14 = .ok (.istore 4, 2) := by decide +kernel
theorem dX4_close_16 : decode cX4_close 16 = .ok (.iconst 0, 1) := by decide +kernel
theorem dX4_close_17 : decode cX4_close 17 = .ok (.istore 5, 2) := by decide +kernel
theorem dX4_close_19 : decode cX4_close 19 = .ok (.iload 4, 2) := by decide +kernel
theorem dX4_close_21 : decode cX4_close 21 = .ok (.ifCond .le 44, 3) := by decide +kernel
theorem dX4_close_24 : decode cX4_close 24 = .ok (.iload 5, 2) := by decide +kernel
theorem dX4_close_26 : decode cX4_close 26 = .ok (.ifCond .ne 39, 3) := by decide +kernel
theorem dX4_close_29 : decode cX4_close 29 = .ok (.iinc 4 (-1), 3) := by decide +kernel
theorem dX4_close_32 : decode cX4_close 32 = .ok (.aload_n 0, 1) := by decide +kernel
theorem dX4_close_33 : decode cX4_close 33 = .ok (.aload_n 0, 1) := by decide +kernel
theorem dX4_close_34 : decode cX4_close 34 = .ok (.getfield 34, 3) := by decide +kernel
theorem dX4_close_37 : decode cX4_close 37 = .ok (.iload 4, 2) := by decide +kernel
theorem dX4_close_39 : decode cX4_close 39 = .ok (.iaload, 1) := by decide +kernel
theorem dX4_close_40 : decode cX4_close 40 = .ok (.aload_n 2, 1) := by decide +kernel
theorem dX4_close_41 : decode cX4_close 41 = .ok (.invokevirtual 115, 3) := by decide +kernel
theorem dX4_close_44 : decode cX4_close 44 = .ok (.aload_n 0, 1) := by decide +kernel
theorem dX4_close_45 : decode cX4_close 45 = .ok (.getfield 34, 3) := by decide +kernel
theorem dX4_close_48 : decode cX4_close 48 = .ok (.iload 4, 2) := by decide +kernel
theorem dX4_close_50 : decode cX4_close 50 = .ok (.iaload, 1) := by decide +kernel
theorem dX4_close_51 : decode cX4_close 51 = .ok (.iload_n 1, 1) := by decide +kernel
theorem dX4_close_52 : decode cX4_close 52 = .ok (.if_icmp .ne 7, 3) := by decide +kernel
theorem dX4_close_55 : decode cX4_close 55 = .ok (.iconst 1, 1) := by decide +kernel
theorem dX4_close_56 : decode cX4_close 56 = .ok (.goto 4, 3) := by decide +kernel
theorem dX4_close_59 : decode cX4_close 59 = .ok (.iconst 0, 1) := by decide +kernel
theorem dX4_close_60 : decode cX4_close 60 = .ok (.istore 5, 2) := by decide +kernel
theorem dX4_close_62 : decode cX4_close 62 = .ok (.goto (-43), 3) := by decide +kernel
theorem dX4_close_65 : decode cX4_close 65 = .ok (.aload_n 0, 1) := by decide +kernel
theorem dX4_close_66 : decode cX4_close 66 = .ok (.getfield 108, 3) := by decide +kernel
theorem dX4_close_69 : decode cX4_close 69 = .ok (.iload_n 3, 1) := by decide +kernel
theorem dX4_close_70 : decode cX4_close 70 = .ok (.iand, 1) := by decide +kernel
theorem dX4_close_71 : decode cX4_close 71 = .ok (.iload_n 3, 1) := by decide +kernel
theorem dX4_close_72 : decode cX4_close 72 = .ok (.if_icmp .ne 7, 3) := by decide +kernel
theorem dX4_close_75 : decode cX4_close 75 = .ok (.iconst 1, 1) := by decide +kernel
theorem dX4_close_76 : decode cX4_close 76 = .ok (.goto 4, 3) := by decide +kernel
theorem dX4_close_79 : decode cX4_close 79 = .ok (.iconst 0, 1) := by decide +kernel
theorem dX4_close_80 : decode cX4_close 80 = .ok (.istore 6, 2) := by decide +kernel
theorem dX4_close_82 : decode cX4_close 82 = .ok (.iload 6, 2) := by decide +kernel
theorem dX4_close_84 : decode cX4_close 84 = .ok (.ifCond .eq 19, 3) := by decide +kernel
theorem dX4_close_87 : decode cX4_close 87 = .ok (.aload_n 0, 1) := by decide +kernel
theorem dX4_close_88 : decode cX4_close 88 = .ok (.dup, 1) := by decide +kernel
theorem dX4_close_89 : decode cX4_close 89 = .ok (.getfield 73, 3) := by decide +kernel
theorem dX4_close_92 : decode cX4_close 92 = .ok (.aload_n 0, 1) := by decide +kernel
theorem dX4_close_93 : decode cX4_close 93 = .ok (.getfield 67, 3) := by decide +kernel
theorem dX4_close_96 : decode cX4_close 96 = .ok (.iload 4, 2) := by decide +kernel
theorem dX4_close_98 : decode cX4_close 98 = .ok (.isub, 1) := by decide +kernel
theorem dX4_close_99 : decode cX4_close 99 = .ok (.iadd, 1) := by decide +kernel
theorem dX4_close_100 : decode cX4_close 100 = .ok (.putfield 73, 3) := by decide +kernel
theorem dX4_close_103 : decode cX4_close 103 = .ok (.iload 4, 2) := by decide +kernel
theorem dX4_close_105 : decode cX4_close 105 = .ok (.istore 7, 2) := by decide +kernel
theorem dX4_close_107 : decode cX4_close 107 = .ok (.iload 7, 2) := by decide +kernel
theorem dX4_close_109 : decode cX4_close 109 = .ok (.aload_n 0, 1) := by decide +kernel
theorem dX4_close_110 : decode cX4_close 110 = .ok (.getfield 67, 3) := by decide +kernel
theorem dX4_close_113 : decode cX4_close 113 = .ok (.if_icmp .ge 51, 3) := by decide +kernel
theorem dX4_close_116 : decode cX4_close 116 = .ok (.aload_n 0, 1) := by decide +kernel
theorem dX4_close_117 : decode cX4_close 117 = .ok (.getfield 15, 3) := by decide +kernel
theorem dX4_close_120 : decode cX4_close 120 = .ok (.aload_n 0, 1) := by decide +kernel
theorem dX4_close_121 : decode cX4_close 121 = .ok (.getfield 34, 3) := by decide +kernel
theorem dX4_close_124 : decode cX4_close 124 = .ok (.iload 7, 2) := by decide +kernel
theorem dX4_close_126 : decode cX4_close 126 = .ok (.iaload, 1) := by decide +kernel
theorem dX4_close_127 : decode cX4_close 127 = .ok (.iconst 0, 1) := by decide +kernel
theorem dX4_close_128 : decode cX4_close 128 = .ok (.bastore, 1) := by decide +kernel
theorem dX4_close_129 : decode cX4_close 129 = .ok (.aload_n 0, 1) := by decide +kernel
theorem dX4_close_130 : decode cX4_close 130 = .ok (.getfield 18, 3) := by decide +kernel
theorem dX4_close_133 : decode cX4_close 133 = .ok (.aload_n 0, 1) := by decide +kernel
theorem dX4_close_134 : decode cX4_close 134 = .ok (.getfield 34, 3) := by decide +kernel
theorem dX4_close_137 : decode cX4_close 137 = .ok (.iload 7, 2) := by decide +kernel
theorem dX4_close_139 : decode cX4_close 139 = .ok (.iaload, 1) := by decide +kernel
theorem dX4_close_140 : decode cX4_close 140 = .ok (.iload 6, 2) := by decide +kernel
theorem dX4_close_142 : decode cX4_close 142 = .ok (.ifCond .ne 10, 3) := by decide +kernel
theorem dX4_close_145 : decode cX4_close 145 = .ok (.aload_n 0, 1) := by decide +kernel
theorem dX4_close_146 : decode cX4_close 146 = .ok (.getfield 111, 3) := by decide +kernel
theorem dX4_close_149 : decode cX4_close 149 = .ok (.ifCond .eq 7, 3) := by decide +kernel
theorem dX4_close_152 : decode cX4_close 152 = .ok (.iconst 1, 1) := by decide +kernel
theorem dX4_close_153 : decode cX4_close 153 = .ok (.goto 4, 3) := by decide +kernel
theorem dX4_close_156 : decode cX4_close 156 = .ok (.iconst 0, 1) := by decide +kernel
theorem dX4_close_157 : decode cX4_close 157 = .ok (.bastore, 1) := by decide +kernel
theorem dX4_close_158 : decode cX4_close 158 = .ok (.iinc 7 1, 3) := by decide +kernel
theorem dX4_close_161 : decode cX4_close 161 = .ok (.goto (-54), 3) := by decide +kernel
theorem dX4_close_164 : decode cX4_close 164 = .ok (.aload_n 0, 1) := by decide +kernel
theorem dX4_close_165 : decode cX4_close 165 = .ok (.iload 4, 2) := by decide +kernel
theorem dX4_close_167 : decode cX4_close 167 = .ok (.putfield 67, 3) := by decide +kernel
theorem dX4_close_170 : decode cX4_close 170 = .ok (.return_, 1) := by decide +kernel
theorem dX4_lookAt_0 : decode cX4_lookAt 0 = .ok (.aload_n 0, 1) := by decide +kernel
theorem dX4_lookAt_1 : decode cX4_lookAt 1 = .ok (.dup, 1) := by decide +kernel
theorem dX4_lookAt_2 : decode cX4_lookAt 2 = .ok (.getfield 108, 3) := by decide +kernel
theorem dX4_lookAt_5 : decode cX4_lookAt 5 = .ok (.aload_n 2, 1) := by decide +kernel
theorem dX4_lookAt_6 : decode cX4_lookAt 6 = .ok (.iload_n 1, 1) := by decide +kernel
theorem dX4_lookAt_7 : decode cX4_lookAt 7 = .ok (.invokevirtual 119, 3) := by decide +kernel
theorem dX4_lookAt_10 : decode cX4_lookAt 10 = .ok (.iconst (-1), 1) := by decide +kernel
theorem dX4_lookAt_11 : decode cX4_lookAt 11 = .ok (.ixor, 1) := by decide +kernel
theorem dX4_lookAt_12 : decode cX4_lookAt 12 = .ok (.ior, 1) := by decide +kernel
theorem dX4_lookAt_13 : decode cX4_lookAt 13 = .ok (.putfield 108, 3) := by decide +kernel
theorem dX4_lookAt_16 : decode cX4_lookAt 16 = .ok (.aload_n 2, 1) := by decide +kernel
theorem dX4_lookAt_17 : decode cX4_lookAt 17 = .ok (.iload_n 1, 1) := by decide +kernel
theorem dX4_lookAt_18 : decode cX4_lookAt 18 = .ok (.invokevirtual 83, 3) := by decide +kernel
theorem dX4_lookAt_21 : decode cX4_lookAt 21 = .ok (.istore_n 3, 1) := by decide +kernel
theorem dX4_lookAt_22 : decode cX4_lookAt 22 = .ok (.iconst 0, 1) := by decide +kernel
theorem dX4_lookAt_23 : decode cX4_lookAt 23 = .ok (.istore 4, 2) := by decide +kernel
theorem dX4_lookAt_25 : decode cX4_lookAt 25 = .ok (.iload 4, 2) := by decide +kernel
theorem dX4_lookAt_27 : decode cX4_lookAt 27 = .ok (.iload_n 3, 1) := by decide +kernel
theorem dX4_lookAt_28 : decode cX4_lookAt 28 = .ok (.if_icmp .ge 88, 3) := by decide +kernel
theorem dX4_lookAt_31 : decode cX4_lookAt 31 = .ok (.aload_n 2, 1) := by decide +kernel
theorem dX4_lookAt_32 : decode cX4_lookAt 32 = .ok (.iload_n 1, 1) := by decide +kernel
theorem dX4_lookAt_33 : decode cX4_lookAt 33 = .ok (.iload 4, 2) := by decide +kernel
theorem dX4_lookAt_35 : decode cX4_lookAt 35 = .ok (.invokevirtual 86, 3) := by decide +kernel
theorem dX4_lookAt_38 : decode cX4_lookAt 38 = .ok (.istore 5, 2) := by decide +kernel
theorem dX4_lookAt_40 : decode cX4_lookAt 40 = .ok (.iload 5, 2) := by decide +kernel
theorem dX4_lookAt_42 : decode cX4_lookAt 42 = .ok (.iconst 0, 1) := by decide +kernel
theorem dX4_lookAt_43 : decode cX4_lookAt 43 = .ok (.invokestatic 90, 3) := by decide +kernel
theorem dX4_lookAt_46 : decode cX4_lookAt 46 = .ok (.istore 6, 2) := by decide +kernel
theorem dX4_lookAt_48 : decode cX4_lookAt 48 = .ok (.aload_n 0, 1) := by decide +kernel
theorem dX4_lookAt_49 : decode cX4_lookAt 49 = .ok (.getfield 9, 3) := by decide +kernel
theorem dX4_lookAt_52 : decode cX4_lookAt 52 = .ok (.iload 6, 2) := by decide +kernel
theorem dX4_lookAt_54 : decode cX4_lookAt 54 = .ok (.baload, 1) := by decide +kernel
theorem dX4_lookAt_55 : decode cX4_lookAt 55 = .ok (.ifCond .eq 30, 3) := by decide +kernel
theorem dX4_lookAt_58 : decode cX4_lookAt 58 = .ok (.aload_n 0, 1) := by decide +kernel
theorem dX4_lookAt_59 : decode cX4_lookAt 59 = .ok (.getfield 15, 3) := by decide +kernel
theorem dX4_lookAt_62 : decode cX4_lookAt 62 = .ok (.iload 6, 2) := by decide +kernel
theorem dX4_lookAt_64 : decode cX4_lookAt 64 = .ok (.baload, 1) := by decide +kernel
theorem dX4_lookAt_65 : decode cX4_lookAt 65 = .ok (.ifCond .eq 20, 3) := by decide +kernel
theorem dX4_lookAt_68 : decode cX4_lookAt 68 = .ok (.aload_n 0, 1) := by decide +kernel
theorem dX4_lookAt_69 : decode cX4_lookAt 69 = .ok (.dup, 1) := by decide +kernel
theorem dX4_lookAt_70 : decode cX4_lookAt 70 = .ok (.getfield 108, 3) := by decide +kernel
theorem dX4_lookAt_73 : decode cX4_lookAt 73 = .ok (.iload 5, 2) := by decide +kernel
theorem dX4_lookAt_75 : decode cX4_lookAt 75 = .ok (.invokestatic 122, 3) := by decide +kernel
theorem dX4_lookAt_78 : decode cX4_lookAt 78 = .ok (.ior, 1) := by decide +kernel
theorem dX4_lookAt_79 : decode cX4_lookAt 79 = .ok (.putfield 108, 3) := by decide +kernel
theorem dX4_lookAt_82 : decode cX4_lookAt 82 = .ok (.goto 28, 3) := by decide +kernel
theorem dX4_lookAt_85 : decode cX4_lookAt 85 = .ok (.aload_n 0, 1) := by decide +kernel
theorem dX4_lookAt_86 : decode cX4_lookAt 86 = .ok (.getfield 9, 3) := by decide +kernel
theorem dX4_lookAt_89 : decode cX4_lookAt 89 = .ok (.iload 6, 2) := by decide +kernel
theorem dX4_lookAt_91 : decode cX4_lookAt 91 = .ok (.baload, 1) := by decide +kernel
theorem dX4_lookAt_92 : decode cX4_lookAt 92 = .ok (.ifCond .eq 18, 3) := by decide +kernel
theorem dX4_lookAt_95 : decode cX4_lookAt 95 = .ok (.aload_n 0, 1) := by decide +kernel
theorem dX4_lookAt_96 : decode cX4_lookAt 96 = .ok (.getfield 18, 3) := by decide +kernel
theorem dX4_lookAt_99 : decode cX4_lookAt 99 = .ok (.iload 6, 2) := by decide +kernel
theorem dX4_lookAt_101 : decode cX4_lookAt 101 = .ok (.baload, 1) := by decide +kernel
theorem dX4_lookAt_102 : decode cX4_lookAt 102 = .ok (.ifCond .eq 8, 3) := by decide +kernel
theorem dX4_lookAt_105 : decode cX4_lookAt 105 = .ok (.aload_n 0, 1) := by decide +kernel
theorem dX4_lookAt_106 : decode cX4_lookAt 106 = .ok (.iconst 1, 1) := by decide +kernel
theorem dX4_lookAt_107 : decode cX4_lookAt 107 = .ok (.putfield 111, 3) := by decide +kernel
theorem dX4_lookAt_110 : decode cX4_lookAt 110 = .ok (.iinc 4 1, 3) := by decide +kernel
theorem dX4_lookAt_113 : decode cX4_lookAt 113 = .ok (.goto (-88), 3) := by decide +kernel
theorem dX4_lookAt_116 : decode cX4_lookAt 116 = .ok (.return_, 1) := by decide +kernel
theorem dX5_init_0 : decode cX5_init 0 = .ok (.aload_n 0, 1) := by decide +kernel
theorem dX5_init_1 : decode cX5_init 1 = .ok (.invokespecial 3, 3) := by decide +kernel
theorem dX5_init_4 : decode cX5_init 4 = .ok (.aload_n 0, 1) := by decide +kernel
theorem dX5_init_5 : decode cX5_init 5 = .ok (.new 9, 3) := by decide +kernel
theorem dX5_init_8 : decode cX5_init 8 = .ok (.dup, 1) := by decide +kernel
theorem dX5_init_9 : decode cX5_init 9 = .ok (.invokespecial 11, 3) := by decide +kernel
theorem dX5_init_12 : decode cX5_init 12 = .ok (.putfield 12, 3) := by decide +kernel
theorem dX5_init_15 : decode cX5_init 15 = .ok (.aload_n 0, 1) := by decide +kernel
theorem dX5_init_16 : decode cX5_init 16 = .ok (.new 16, 3) := by decide +kernel
theorem dX5_init_19 : decode cX5_init 19 = .ok (.dup, 1) := by decide +kernel
theorem dX5_init_20 : decode cX5_init 20 = .ok (.invokespecial 18, 3) := by decide +kernel
theorem dX5_init_23 : decode cX5_init 23 = .ok (.putfield 19, 3) := by decide +kernel
theorem dX5_init_26 : decode cX5_init 26 = .ok (.aload_n 0, 1) := by decide +kernel
theorem dX5_init_27 : decode cX5_init 27 = .ok (.new 23, 3) := by decide +kernel
theorem dX5_init_30 : decode cX5_init 30 = .ok (.dup, 1) := by decide +kernel
theorem dX5_init_31 : decode cX5_init 31 = .ok (.invokespecial 25, 3) := by decide +kernel
theorem dX5_init_34 : decode cX5_init 34 = .ok (.putfield 26, 3) := by decide +kernel
theorem dX5_init_37 : decode cX5_init 37 = .ok (.aload_n 0, 1) := by decide +kernel
theorem dX5_init_38 : decode cX5_init 38 = .ok (.new 30, 3) := by decide +kernel
theorem dX5_init_41 : decode cX5_init 41 = .ok (.dup, 1) := by decide +kernel
theorem dX5_init_42 : decode cX5_init 42 = .ok (.invokespecial 32, 3) := by decide +kernel
theorem dX5_init_45 : decode cX5_init 45 = .ok (.putfield 33, 3) := by decide +kernel
theorem dX5_init_48 : decode cX5_init 48 = .ok (.return_, 1) := by decide +kernel
theorem dX5_addProcess_0 : decode cX5_addProcess 0 = .ok (.iload_n 1, 1) := by decide +kernel
theorem dX5_addProcess_1 : decode cX5_addProcess 1 = .ok (.iconst 1, 1) := by decide +kernel
theorem dX5_addProcess_2 : decode cX5_addProcess 2 = .ok (.bipush 8, 2) := by decide +kernel
theorem dX5_addProcess_4 : decode cX5_addProcess 4 = .ok (.invokestatic 37, 3) := by decide +kernel
theorem dX5_addProcess_7 : decode cX5_addProcess 7 = .ok (.ifCond .ne 13, 3) := by decide +kernel
theorem dX5_addProcess_10 : decode cX5_addProcess 10 = .ok (.new 41, 3) := by decide +kernel
theorem dX5_addProcess_13 : decode cX5_addProcess 13 = .ok (.dup, 1) := by decide +kernel
theorem dX5_addProcess_14 : decode cX5_addProcess 14 = .ok (.ldc 43, 2) := by decide +kernel
theorem dX5_addProcess_16 : decode cX5_addProcess 16 = .ok (.invokespecial 45, 3) := by decide +kernel
theorem dX5_addProcess_19 : decode cX5_addProcess 19 = .ok (.athrow, 1) := by decide +kernel
theorem dX5_addProcess_20 : decode cX5_addProcess 20 = .ok (.aload_n 0, 1) := by decide +kernel
theorem dX5_addProcess_21 : decode cX5_addProcess 21 = .ok (.getfield 12, 3) := by decide +kernel
theorem dX5_addProcess_24 : decode cX5_addProcess 24 = .ok (.getfield 48, 3) := by decide +kernel
theorem dX5_addProcess_27 : decode cX5_addProcess 27 = .ok (.iconst 5, 1) := by decide +kernel
theorem dX5_addProcess_28 : decode cX5_addProcess 28 = .ok (.if_icmp .lt 13, 3) := by decide +kernel
theorem dX5_addProcess_31 : decode cX5_addProcess 31 = .ok (.new 52, 3) := by decide +kernel
theorem dX5_addProcess_34 : decode cX5_addProcess 34 = .ok (.dup, 1) := by decide +kernel
theorem dX5_addProcess_35 : decode cX5_addProcess 35 = .ok (.ldc 54, 2) := by decide +kernel
theorem dX5_addProcess_37 : decode cX5_addProcess 37 = .ok (.invokespecial 56, 3) := by decide +kernel
theorem dX5_addProcess_40 : decode cX5_addProcess 40 = .ok (.athrow, 1) := by decide +kernel
theorem dX5_addProcess_41 : decode cX5_addProcess 41 = .ok (.aload_n 0, 1) := by decide +kernel
theorem dX5_addProcess_42 : decode cX5_addProcess 42 = .ok (.getfield 19, 3) := by decide +kernel
theorem dX5_addProcess_45 : decode cX5_addProcess 45 = .ok (.invokevirtual 57, 3) := by decide +kernel
theorem dX5_addProcess_48 : decode cX5_addProcess 48 = .ok (.aload_n 0, 1) := by decide +kernel
theorem dX5_addProcess_49 : decode cX5_addProcess 49 = .ok (.getfield 12, 3) := by decide +kernel
theorem dX5_addProcess_52 : decode cX5_addProcess 52 = .ok (.iload_n 1, 1) := by decide +kernel
theorem dX5_addProcess_53 : decode cX5_addProcess 53 = .ok (.invokevirtual 60, 3) := by decide +kernel
theorem dX5_addProcess_56 : decode cX5_addProcess 56 = .ok (.ireturn, 1) := by decide +kernel
theorem dX5_addVariable_0 : decode cX5_addVariable 0 = .ok (.iload_n 1, 1) := by decide +kernel
theorem dX5_addVariable_1 : decode cX5_addVariable 1 = .ok (.iconst 1, 1) := by decide +kernel
theorem dX5_addVariable_2 : decode cX5_addVariable 2 = .ok (.bipush 9, 2) := by decide +kernel
theorem dX5_addVariable_4 : decode cX5_addVariable 4 = .ok (.invokestatic 37, 3) := by decide +kernel
theorem dX5_addVariable_7 : decode cX5_addVariable 7 = .ok (.ifCond .ne 13, 3) := by decide +kernel
theorem dX5_addVariable_10 : decode cX5_addVariable 10 = .ok (.new 41, 3) := by decide +kernel
theorem dX5_addVariable_13 : decode cX5_addVariable 13 = .ok (.dup, 1) := by decide +kernel
theorem dX5_addVariable_14 : decode cX5_addVariable 14 = .ok (.ldc 64, 2) := by decide +kernel
theorem dX5_addVariable_16 : decode cX5_addVariable 16 = .ok (.invokespecial 45, 3) := by decide +kernel
theorem dX5_addVariable_19 : decode cX5_addVariable 19 = .ok (.athrow, 1) := by decide +kernel
theorem dX5_addVariable_20 : decode cX5_addVariable 20 = .ok (.iload_n 2, 1) := by decide +kernel
theorem dX5_addVariable_21 : decode cX5_addVariable 21 = .ok (.iconst 0, 1) := by decide +kernel
theorem dX5_addVariable_22 : decode cX5_addVariable 22 = .ok (.iload_n 1, 1) := by decide +kernel
theorem dX5_addVariable_23 : decode cX5_addVariable 23 = .ok (.invokestatic 37, 3) := by decide +kernel
theorem dX5_addVariable_26 : decode cX5_addVariable 26 = .ok (.ifCond .ne 13, 3) := by decide +kernel
theorem dX5_addVariable_29 : decode cX5_addVariable 29 = .ok (.new 41, 3) := by decide +kernel
theorem dX5_addVariable_32 : decode cX5_addVariable 32 = .ok (.dup, 1) := by decide +kernel
theorem dX5_addVariable_33 : decode cX5_addVariable 33 = .ok (.ldc 66, 2) := by decide +kernel
theorem dX5_addVariable_35 : decode cX5_addVariable 35 = .ok (.invokespecial 45, 3) := by decide +kernel
theorem dX5_addVariable_38 : decode cX5_addVariable 38 = .ok (.athrow, 1) := by decide +kernel
theorem dX5_addVariable_39 : decode cX5_addVariable 39 = .ok (.aload_n 0, 1) := by decide +kernel
theorem dX5_addVariable_40 : decode cX5_addVariable 40 = .ok (.getfield 12, 3) := by decide +kernel
theorem dX5_addVariable_43 : decode cX5_addVariable 43 = .ok (.getfield 68, 3) := by decide +kernel
theorem dX5_addVariable_46 : decode cX5_addVariable 46 = .ok (.iconst 4, 1) := by decide +kernel
theorem dX5_addVariable_47 : decode cX5_addVariable 47 = .ok (.if_icmp .lt 13, 3) := by decide +kernel
theorem dX5_addVariable_50 : decode cX5_addVariable 50 = .ok (.new 52, 3) := by decide +kernel
theorem dX5_addVariable_53 : decode cX5_addVariable 53 = .ok (.dup, 1) := by decide +kernel
theorem dX5_addVariable_54 : decode cX5_addVariable 54 = .ok (.ldc 71, 2) := by decide +kernel
theorem dX5_addVariable_56 : decode cX5_addVariable 56 = .ok (.invokespecial 56, 3) := by decide +kernel
theorem dX5_addVariable_59 : decode cX5_addVariable 59 = .ok (.athrow, 1) := by decide +kernel
theorem dX5_addVariable_60 : decode cX5_addVariable 60 = .ok (.aload_n 0, 1) := by decide +kernel
theorem dX5_addVariable_61 : decode cX5_addVariable 61 = .ok (.getfield 19, 3) := by decide +kernel
theorem dX5_addVariable_64 : decode cX5_addVariable 64 = .ok (.invokevirtual 57, 3) := by decide +kernel
theorem dX5_addVariable_67 : decode cX5_addVariable 67 = .ok (.aload_n 0, 1) := by decide +kernel
theorem dX5_addVariable_68 : decode cX5_addVariable 68 = .ok (.getfield 12, 3) := by decide +kernel
theorem dX5_addVariable_71 : decode cX5_addVariable 71 = .ok (.iload_n 1, 1) := by decide +kernel
theorem dX5_addVariable_72 : decode cX5_addVariable 72 = .ok (.iload_n 2, 1) := by decide +kernel
theorem dX5_addVariable_73 : decode cX5_addVariable 73 = .ok (.invokevirtual 73, 3) := by decide +kernel
theorem dX5_addVariable_76 : decode cX5_addVariable 76 = .ok (.ireturn, 1) := by decide +kernel
theorem dX5_addMove_0 : decode cX5_addMove 0 = .ok (.aload_n 0, 1) := by decide +kernel
theorem dX5_addMove_1 : decode cX5_addMove 1 = .ok (.getfield 12, 3) := by decide +kernel
theorem dX5_addMove_4 : decode cX5_addMove 4 = .ok (.iload_n 1, 1) := by decide +kernel
theorem dX5_addMove_5 : decode cX5_addMove 5 = .ok (.invokevirtual 77, 3) := by decide +kernel
theorem dX5_addMove_8 : decode cX5_addMove 8 = .ok (.ifCond .ne 13, 3) := by decide +kernel
theorem dX5_addMove_11 : decode cX5_addMove 11 = .ok (.new 81, 3) := by decide +kernel
theorem dX5_addMove_14 : decode cX5_addMove 14 = .ok (.dup, 1) := by decide +kernel
theorem dX5_addMove_15 : decode cX5_addMove 15 = .ok (.ldc 83, 2) := by decide +kernel
theorem dX5_addMove_17 : decode cX5_addMove 17 = .ok (.invokespecial 85, 3) := by decide +kernel
theorem dX5_addMove_20 : decode cX5_addMove 20 = .ok (.athrow, 1) := by decide +kernel
theorem dX5_addMove_21 : decode cX5_addMove 21 = .ok (.aload_n 0, 1) := by decide +kernel
theorem dX5_addMove_22 : decode cX5_addMove 22 = .ok (.getfield 12, 3) := by decide +kernel
theorem dX5_addMove_25 : decode cX5_addMove 25 = .ok (.iload_n 1, 1) := by decide +kernel
theorem dX5_addMove_26 : decode cX5_addMove 26 = .ok (.iload_n 2, 1) := by decide +kernel
theorem dX5_addMove_27 : decode cX5_addMove 27 = .ok (.invokevirtual 86, 3) := by decide +kernel
theorem dX5_addMove_30 : decode cX5_addMove 30 = .ok (.ifCond .eq 15, 3) := by decide +kernel
theorem dX5_addMove_33 : decode cX5_addMove 33 = .ok (.aload_n 0, 1) := by decide +kernel
theorem dX5_addMove_34 : decode cX5_addMove 34 = .ok (.getfield 12, 3) := by decide +kernel
theorem dX5_addMove_37 : decode cX5_addMove 37 = .ok (.iload_n 1, 1) := by decide +kernel
theorem dX5_addMove_38 : decode cX5_addMove 38 = .ok (.iload_n 3, 1) := by decide +kernel
theorem dX5_addMove_39 : decode cX5_addMove 39 = .ok (.invokevirtual 86, 3) := by decide +kernel
theorem dX5_addMove_42 : decode cX5_addMove 42 = .ok (.ifCond .ne 13, 3) := by decide +kernel
theorem dX5_addMove_45 : decode cX5_addMove 45 = .ok (.new 41, 3) := by decide +kernel
theorem dX5_addMove_48 : decode cX5_addMove 48 = .ok (.dup, 1) := by decide +kernel
theorem dX5_addMove_49 : decode cX5_addMove 49 = .ok (.ldc 90, 2) := by decide +kernel
theorem dX5_addMove_51 : decode cX5_addMove 51 = .ok (.invokespecial 45, 3) := by decide +kernel
theorem dX5_addMove_54 : decode cX5_addMove 54 = .ok (.athrow, 1) := by decide +kernel
theorem dX5_addMove_55 : decode cX5_addMove 55 = .ok (.iload 4, 2) := by decide +kernel
theorem dX5_addMove_57 : decode cX5_addMove 57 = .ok (.iconst 0, 1) := by decide +kernel
theorem dX5_addMove_58 : decode cX5_addMove 58 = .ok (.bipush 9, 2) := by decide +kernel
theorem dX5_addMove_60 : decode cX5_addMove 60 = .ok (.invokestatic 37, 3) := by decide +kernel
theorem dX5_addMove_63 : decode cX5_addMove 63 = .ok (.ifCond .ne 13, 3) := by decide +kernel
theorem dX5_addMove_66 : decode cX5_addMove 66 = .ok (.new 41, 3) := by decide +kernel
theorem dX5_addMove_69 : decode cX5_addMove 69 = .ok (.dup, 1) := by decide +kernel
theorem dX5_addMove_70 : decode cX5_addMove 70 = .ok (.ldc 92, 2) := by decide +kernel
theorem dX5_addMove_72 : decode cX5_addMove 72 = .ok (.invokespecial 45, 3) := by decide +kernel
theorem dX5_addMove_75 : decode cX5_addMove 75 = .ok (.athrow, 1) := by decide +kernel
theorem dX5_addMove_76 : decode cX5_addMove 76 = .ok (.aload_n 0, 1) := by decide +kernel
theorem dX5_addMove_77 : decode cX5_addMove 77 = .ok (.getfield 12, 3) := by decide +kernel
theorem dX5_addMove_80 : decode cX5_addMove 80 = .ok (.iload_n 1, 1) := by decide +kernel
theorem dX5_addMove_81 : decode cX5_addMove 81 = .ok (.invokevirtual 94, 3) := by decide +kernel
theorem dX5_addMove_84 : decode cX5_addMove 84 = .ok (.bipush 16, 2) := by decide +kernel
theorem dX5_addMove_86 : decode cX5_addMove 86 = .ok (.if_icmp .lt 13, 3) := by decide +kernel
theorem dX5_addMove_89 : decode cX5_addMove 89 = .ok (.new 52, 3) := by decide +kernel
theorem dX5_addMove_92 : decode cX5_addMove 92 = .ok (.dup, 1) := by decide +kernel
theorem dX5_addMove_93 : decode cX5_addMove 93 = .ok (.ldc 97, 2) := by decide +kernel
theorem dX5_addMove_95 : decode cX5_addMove 95 = .ok (.invokespecial 56, 3) := by decide +kernel
theorem dX5_addMove_98 : decode cX5_addMove 98 = .ok (.athrow, 1) := by decide +kernel
theorem dX5_addMove_99 : decode cX5_addMove 99 = .ok (.aload_n 0, 1) := by decide +kernel
theorem dX5_addMove_100 : decode cX5_addMove 100 = .ok (.getfield 19, 3) := by decide +kernel
theorem dX5_addMove_103 : decode cX5_addMove 103 = .ok (.invokevirtual 57, 3) := by decide +kernel
theorem dX5_addMove_106 : decode cX5_addMove 106 = .ok (.aload_n 0, 1) := by decide +kernel
theorem dX5_addMove_107 : decode cX5_addMove 107 = .ok (.getfield 12, 3) := by decide +kernel
theorem dX5_addMove_110 : decode cX5_addMove 110 = .ok (.iload_n 1, 1) := by decide +kernel
theorem dX5_addMove_111 : decode cX5_addMove 111 = .ok (.iload_n 2, 1) := by decide +kernel
theorem dX5_addMove_112 : decode cX5_addMove 112 = .ok (.iload_n 3, 1) := by decide +kernel
theorem dX5_addMove_113 : decode cX5_addMove 113 = .ok (.iload 4, 2) := by decide +kernel
theorem dX5_addMove_115 : decode cX5_addMove 115 = .ok (.invokevirtual 99, 3) := by decide +kernel
theorem dX5_addMove_118 : decode cX5_addMove 118 = .ok (.ireturn, 1) := by decide +kernel
theorem dX5_guard_0 : decode cX5_guard 0 = .ok (.aload_n 0, 1) := by decide +kernel
theorem dX5_guard_1 : decode cX5_guard 1 = .ok (.getfield 12, 3) := by decide +kernel
theorem dX5_guard_4 : decode cX5_guard 4 = .ok (.iload_n 1, 1) := by decide +kernel
theorem dX5_guard_5 : decode cX5_guard 5 = .ok (.iload_n 2, 1) := by decide +kernel
theorem dX5_guard_6 : decode cX5_guard 6 = .ok (.invokevirtual 103, 3) := by decide +kernel
theorem dX5_guard_9 : decode cX5_guard 9 = .ok (.astore 6, 2) := by decide +kernel
theorem dX5_guard_11 : decode cX5_guard 11 = .ok (.aload 6, 2) := by decide +kernel
theorem dX5_guard_13 : decode cX5_guard 13 = .ok (.ifnonnull 13, 3) := by decide +kernel
theorem dX5_guard_16 : decode cX5_guard 16 = .ok (.new 81, 3) := by decide +kernel
theorem dX5_guard_19 : decode cX5_guard 19 = .ok (.dup, 1) := by decide +kernel
theorem dX5_guard_20 : decode cX5_guard 20 = .ok (.ldc 107, 2) := by decide +kernel
theorem dX5_guard_22 : decode cX5_guard 22 = .ok (.invokespecial 85, 3) := by decide +kernel
theorem dX5_guard_25 : decode cX5_guard 25 = .ok (.athrow, 1) := by decide +kernel
theorem dX5_guard_26 : decode cX5_guard 26 = .ok (.iload_n 3, 1) := by decide +kernel
theorem dX5_guard_27 : decode cX5_guard 27 = .ok (.iconst 0, 1) := by decide +kernel
theorem dX5_guard_28 : decode cX5_guard 28 = .ok (.iconst 4, 1) := by decide +kernel
theorem dX5_guard_29 : decode cX5_guard 29 = .ok (.invokestatic 37, 3) := by decide +kernel
theorem dX5_guard_32 : decode cX5_guard 32 = .ok (.ifCond .ne 13, 3) := by decide +kernel
theorem dX5_guard_35 : decode cX5_guard 35 = .ok (.new 41, 3) := by decide +kernel
theorem dX5_guard_38 : decode cX5_guard 38 = .ok (.dup, 1) := by decide +kernel
theorem dX5_guard_39 : decode cX5_guard 39 = .ok (.ldc 109, 2) := by decide +kernel
theorem dX5_guard_41 : decode cX5_guard 41 = .ok (.invokespecial 45, 3) := by decide +kernel
theorem dX5_guard_44 : decode cX5_guard 44 = .ok (.athrow, 1) := by decide +kernel
theorem dX5_guard_45 : decode cX5_guard 45 = .ok (.iload_n 3, 1) := by decide +kernel
theorem dX5_guard_46 : decode cX5_guard 46 = .ok (.ifCond .eq 25, 3) := by decide +kernel
theorem dX5_guard_49 : decode cX5_guard 49 = .ok (.aload_n 0, 1) := by decide +kernel
theorem dX5_guard_50 : decode cX5_guard 50 = .ok (.getfield 12, 3) := by decide +kernel
theorem dX5_guard_53 : decode cX5_guard 53 = .ok (.iload 4, 2) := by decide +kernel
theorem dX5_guard_55 : decode cX5_guard 55 = .ok (.invokevirtual 111, 3) := by decide +kernel
theorem dX5_guard_58 : decode cX5_guard 58 = .ok (.ifCond .ne 13, 3) := by decide +kernel
theorem dX5_guard_61 : decode cX5_guard 61 = .ok (.new 41, 3) := by decide +kernel
theorem dX5_guard_64 : decode cX5_guard 64 = .ok (.dup, 1) := by decide +kernel
theorem dX5_guard_65 : decode cX5_guard 65 = .ok (.ldc 114, 2) := by decide +kernel
theorem dX5_guard_67 : decode cX5_guard 67 = .ok (.invokespecial 45, 3) := by decide +kernel
theorem dX5_guard_70 : decode cX5_guard 70 = .ok (.athrow, 1) := by decide +kernel
theorem dX5_guard_71 : decode cX5_guard 71 = .ok (.iload 5, 2) := by decide +kernel
theorem dX5_guard_73 : decode cX5_guard 73 = .ok (.iconst 0, 1) := by decide +kernel
theorem dX5_guard_74 : decode cX5_guard 74 = .ok (.bipush 9, 2) := by decide +kernel
theorem dX5_guard_76 : decode cX5_guard 76 = .ok (.invokestatic 37, 3) := by decide +kernel
theorem dX5_guard_79 : decode cX5_guard 79 = .ok (.ifCond .ne 13, 3) := by decide +kernel
theorem dX5_guard_82 : decode cX5_guard 82 = .ok (.new 41, 3) := by decide +kernel
theorem dX5_guard_85 : decode cX5_guard 85 = .ok (.dup, 1) := by decide +kernel
theorem dX5_guard_86 : decode cX5_guard 86 = .ok (.ldc 116, 2) := by decide +kernel
theorem dX5_guard_88 : decode cX5_guard 88 = .ok (.invokespecial 45, 3) := by decide +kernel
theorem dX5_guard_91 : decode cX5_guard 91 = .ok (.athrow, 1) := by decide +kernel
theorem dX5_guard_92 : decode cX5_guard 92 = .ok (.aload_n 0, 1) := by decide +kernel
theorem dX5_guard_93 : decode cX5_guard 93 = .ok (.getfield 19, 3) := by decide +kernel
theorem dX5_guard_96 : decode cX5_guard 96 = .ok (.invokevirtual 57, 3) := by decide +kernel
theorem dX5_guard_99 : decode cX5_guard 99 = .ok (.aload 6, 2) := by decide +kernel
theorem dX5_guard_101 : decode cX5_guard 101 = .ok (.iload_n 3, 1) := by decide +kernel
theorem dX5_guard_102 : decode cX5_guard 102 = .ok (.iload 4, 2) := by decide +kernel
theorem dX5_guard_104 : decode cX5_guard 104 = .ok (.iload 5, 2) := by decide +kernel
theorem dX5_guard_106 : decode cX5_guard 106 = .ok (.invokevirtual 118, 3) := by decide +kernel
theorem dX5_guard_109 : decode cX5_guard 109 = .ok (.ireturn, 1) := by decide +kernel
theorem dX5_deed_0 : decode cX5_deed 0 = .ok (.aload_n 0, 1) := by decide +kernel
theorem dX5_deed_1 : decode cX5_deed 1 = .ok (.getfield 12, 3) := by decide +kernel
theorem dX5_deed_4 : decode cX5_deed 4 = .ok (.iload_n 1, 1) := by decide +kernel
theorem dX5_deed_5 : decode cX5_deed 5 = .ok (.iload_n 2, 1) := by decide +kernel
theorem dX5_deed_6 : decode cX5_deed 6 = .ok (.invokevirtual 103, 3) := by decide +kernel
theorem dX5_deed_9 : decode cX5_deed 9 = .ok (.astore 6, 2) := by decide +kernel
theorem dX5_deed_11 : decode cX5_deed 11 = .ok (.aload 6, 2) := by decide +kernel
theorem dX5_deed_13 : decode cX5_deed 13 = .ok (.ifnonnull 13, 3) := by decide +kernel
theorem dX5_deed_16 : decode cX5_deed 16 = .ok (.new 81, 3) := by decide +kernel
theorem dX5_deed_19 : decode cX5_deed 19 = .ok (.dup, 1) := by decide +kernel
theorem dX5_deed_20 : decode cX5_deed 20 = .ok (.ldc 107, 2) := by decide +kernel
theorem dX5_deed_22 : decode cX5_deed 22 = .ok (.invokespecial 85, 3) := by decide +kernel
theorem dX5_deed_25 : decode cX5_deed 25 = .ok (.athrow, 1) := by decide +kernel
theorem dX5_deed_26 : decode cX5_deed 26 = .ok (.iload_n 3, 1) := by decide +kernel
theorem dX5_deed_27 : decode cX5_deed 27 = .ok (.iconst 0, 1) := by decide +kernel
theorem dX5_deed_28 : decode cX5_deed 28 = .ok (.iconst 2, 1) := by decide +kernel
theorem dX5_deed_29 : decode cX5_deed 29 = .ok (.invokestatic 37, 3) := by decide +kernel
theorem dX5_deed_32 : decode cX5_deed 32 = .ok (.ifCond .ne 13, 3) := by decide +kernel
theorem dX5_deed_35 : decode cX5_deed 35 = .ok (.new 41, 3) := by decide +kernel
theorem dX5_deed_38 : decode cX5_deed 38 = .ok (.dup, 1) := by decide +kernel
theorem dX5_deed_39 : decode cX5_deed 39 = .ok (.ldc 124, 2) := by decide +kernel
theorem dX5_deed_41 : decode cX5_deed 41 = .ok (.invokespecial 45, 3) := by decide +kernel
theorem dX5_deed_44 : decode cX5_deed 44 = .ok (.athrow, 1) := by decide +kernel
theorem dX5_deed_45 : decode cX5_deed 45 = .ok (.iload_n 3, 1) := by decide +kernel
theorem dX5_deed_46 : decode cX5_deed 46 = .ok (.ifCond .eq 25, 3) := by decide +kernel
theorem dX5_deed_49 : decode cX5_deed 49 = .ok (.aload_n 0, 1) := by decide +kernel
theorem dX5_deed_50 : decode cX5_deed 50 = .ok (.getfield 12, 3) := by decide +kernel
theorem dX5_deed_53 : decode cX5_deed 53 = .ok (.iload 4, 2) := by decide +kernel
theorem dX5_deed_55 : decode cX5_deed 55 = .ok (.invokevirtual 111, 3) := by decide +kernel
theorem dX5_deed_58 : decode cX5_deed 58 = .ok (.ifCond .ne 13, 3) := by decide +kernel
theorem dX5_deed_61 : decode cX5_deed 61 = .ok (.new 41, 3) := by decide +kernel
theorem dX5_deed_64 : decode cX5_deed 64 = .ok (.dup, 1) := by decide +kernel
theorem dX5_deed_65 : decode cX5_deed 65 = .ok (.ldc 114, 2) := by decide +kernel
theorem dX5_deed_67 : decode cX5_deed 67 = .ok (.invokespecial 45, 3) := by decide +kernel
theorem dX5_deed_70 : decode cX5_deed 70 = .ok (.athrow, 1) := by decide +kernel
theorem dX5_deed_71 : decode cX5_deed 71 = .ok (.iload 5, 2) := by decide +kernel
theorem dX5_deed_73 : decode cX5_deed 73 = .ok (.bipush (-9), 2) := by decide +kernel
theorem dX5_deed_75 : decode cX5_deed 75 = .ok (.bipush 9, 2) := by decide +kernel
theorem dX5_deed_77 : decode cX5_deed 77 = .ok (.invokestatic 37, 3) := by decide +kernel
theorem dX5_deed_80 : decode cX5_deed 80 = .ok (.ifCond .ne 13, 3) := by decide +kernel
theorem dX5_deed_83 : decode cX5_deed 83 = .ok (.new 41, 3) := by decide +kernel
theorem dX5_deed_86 : decode cX5_deed 86 = .ok (.dup, 1) := by decide +kernel
theorem dX5_deed_87 : decode cX5_deed 87 = .ok (.ldc 126, 2) := by decide +kernel
theorem dX5_deed_89 : decode cX5_deed 89 = .ok (.invokespecial 45, 3) := by decide +kernel
theorem dX5_deed_92 : decode cX5_deed 92 = .ok (.athrow, 1) := by decide +kernel
theorem dX5_deed_93 : decode cX5_deed 93 = .ok (.aload_n 0, 1) := by decide +kernel
theorem dX5_deed_94 : decode cX5_deed 94 = .ok (.getfield 19, 3) := by decide +kernel
theorem dX5_deed_97 : decode cX5_deed 97 = .ok (.invokevirtual 57, 3) := by decide +kernel
theorem dX5_deed_100 : decode cX5_deed 100 = .ok (.aload 6, 2) := by decide +kernel
theorem dX5_deed_102 : decode cX5_deed 102 = .ok (.iload_n 3, 1) := by decide +kernel
theorem dX5_deed_103 : decode cX5_deed 103 = .ok (.iload 4, 2) := by decide +kernel
theorem dX5_deed_105 : decode cX5_deed 105 = .ok (.iload 5, 2) := by decide +kernel
theorem dX5_deed_107 : decode cX5_deed 107 = .ok (.aload_n 0, 1) := by decide +kernel
theorem dX5_deed_108 : decode cX5_deed 108 = .ok (.getfield 12, 3) := by decide +kernel
theorem dX5_deed_111 : decode cX5_deed 111 = .ok (.iload 4, 2) := by decide +kernel
theorem dX5_deed_113 : decode cX5_deed 113 = .ok (.invokevirtual 128, 3) := by decide +kernel
theorem dX5_deed_116 : decode cX5_deed 116 = .ok (.invokevirtual 131, 3) := by decide +kernel
theorem dX5_deed_119 : decode cX5_deed 119 = .ok (.ireturn, 1) := by decide +kernel
theorem dX5_explore_0 : decode cX5_explore 0 = .ok (.aload_n 0, 1) := by decide +kernel
theorem dX5_explore_1 : decode cX5_explore 1 = .ok (.getfield 12, 3) := by decide +kernel
theorem dX5_explore_4 : decode cX5_explore 4 = .ok (.getfield 48, 3) := by decide +kernel
theorem dX5_explore_7 : decode cX5_explore 7 = .ok (.ifCond .ne 13, 3) := by decide +kernel
theorem dX5_explore_10 : decode cX5_explore 10 = .ok (.new 52, 3) := by decide +kernel
theorem dX5_explore_13 : decode cX5_explore 13 = .ok (.dup, 1) := by decide +kernel
theorem dX5_explore_14 : decode cX5_explore 14 = .ok (.ldc 139, 2) := by decide +kernel
theorem dX5_explore_16 : decode cX5_explore 16 = .ok (.invokespecial 56, 3) := by decide +kernel
theorem dX5_explore_19 : decode cX5_explore 19 = .ok (.athrow, 1) := by decide +kernel
theorem dX5_explore_20 : decode cX5_explore 20 = .ok (.aload_n 0, 1) := by decide +kernel
theorem dX5_explore_21 : decode cX5_explore 21 = .ok (.getfield 33, 3) := by decide +kernel
theorem dX5_explore_24 : decode cX5_explore 24 = .ok (.invokevirtual 141, 3) := by decide +kernel
theorem dX5_explore_27 : decode cX5_explore 27 = .ok (.aload_n 0, 1) := by decide +kernel
theorem dX5_explore_28 : decode cX5_explore 28 = .ok (.getfield 19, 3) := by decide +kernel
theorem dX5_explore_31 : decode cX5_explore 31 = .ok (.aload_n 0, 1) := by decide +kernel
theorem dX5_explore_32 : decode cX5_explore 32 = .ok (.getfield 12, 3) := by decide +kernel
theorem dX5_explore_35 : decode cX5_explore 35 = .ok (.invokevirtual 142, 3) := by decide +kernel
theorem dX5_explore_38 : decode cX5_explore 38 = .ok (.ireturn, 1) := by decide +kernel
theorem dX5_state_0 : decode cX5_state 0 = .ok (.aload_n 0, 1) := by decide +kernel
theorem dX5_state_1 : decode cX5_state 1 = .ok (.getfield 19, 3) := by decide +kernel
theorem dX5_state_4 : decode cX5_state 4 = .ok (.iload_n 1, 1) := by decide +kernel
theorem dX5_state_5 : decode cX5_state 5 = .ok (.invokevirtual 146, 3) := by decide +kernel
theorem dX5_state_8 : decode cX5_state 8 = .ok (.ifCond .ne 13, 3) := by decide +kernel
theorem dX5_state_11 : decode cX5_state 11 = .ok (.new 81, 3) := by decide +kernel
theorem dX5_state_14 : decode cX5_state 14 = .ok (.dup, 1) := by decide +kernel
theorem dX5_state_15 : decode cX5_state 15 = .ok (.ldc 149, 2) := by decide +kernel
theorem dX5_state_17 : decode cX5_state 17 = .ok (.invokespecial 85, 3) := by decide +kernel
theorem dX5_state_20 : decode cX5_state 20 = .ok (.athrow, 1) := by decide +kernel
theorem dX5_state_21 : decode cX5_state 21 = .ok (.iload_n 2, 1) := by decide +kernel
theorem dX5_state_22 : decode cX5_state 22 = .ok (.bipush 9, 2) := by decide +kernel
theorem dX5_state_24 : decode cX5_state 24 = .ok (.if_icmp .ne 12, 3) := by decide +kernel
theorem dX5_state_27 : decode cX5_state 27 = .ok (.aload_n 0, 1) := by decide +kernel
theorem dX5_state_28 : decode cX5_state 28 = .ok (.getfield 19, 3) := by decide +kernel
theorem dX5_state_31 : decode cX5_state 31 = .ok (.iload_n 1, 1) := by decide +kernel
theorem dX5_state_32 : decode cX5_state 32 = .ok (.invokevirtual 151, 3) := by decide +kernel
theorem dX5_state_35 : decode cX5_state 35 = .ok (.ireturn, 1) := by decide +kernel
theorem dX5_state_36 : decode cX5_state 36 = .ok (.iload_n 2, 1) := by decide +kernel
theorem dX5_state_37 : decode cX5_state 37 = .ok (.bipush 10, 2) := by decide +kernel
theorem dX5_state_39 : decode cX5_state 39 = .ok (.if_icmp .ne 12, 3) := by decide +kernel
theorem dX5_state_42 : decode cX5_state 42 = .ok (.aload_n 0, 1) := by decide +kernel
theorem dX5_state_43 : decode cX5_state 43 = .ok (.getfield 19, 3) := by decide +kernel
theorem dX5_state_46 : decode cX5_state 46 = .ok (.iload_n 1, 1) := by decide +kernel
theorem dX5_state_47 : decode cX5_state 47 = .ok (.invokevirtual 154, 3) := by decide +kernel
theorem dX5_state_50 : decode cX5_state 50 = .ok (.ireturn, 1) := by decide +kernel
theorem dX5_state_51 : decode cX5_state 51 = .ok (.aload_n 0, 1) := by decide +kernel
theorem dX5_state_52 : decode cX5_state 52 = .ok (.getfield 12, 3) := by decide +kernel
theorem dX5_state_55 : decode cX5_state 55 = .ok (.iload_n 2, 1) := by decide +kernel
theorem dX5_state_56 : decode cX5_state 56 = .ok (.invokevirtual 77, 3) := by decide +kernel
theorem dX5_state_59 : decode cX5_state 59 = .ok (.ifCond .eq 16, 3) := by decide +kernel
theorem dX5_state_62 : decode cX5_state 62 = .ok (.aload_n 0, 1) := by decide +kernel
theorem dX5_state_63 : decode cX5_state 63 = .ok (.getfield 19, 3) := by decide +kernel
theorem dX5_state_66 : decode cX5_state 66 = .ok (.iload_n 1, 1) := by decide +kernel
theorem dX5_state_67 : decode cX5_state 67 = .ok (.invokevirtual 157, 3) := by decide +kernel
theorem dX5_state_70 : decode cX5_state 70 = .ok (.iload_n 2, 1) := by decide +kernel
theorem dX5_state_71 : decode cX5_state 71 = .ok (.invokestatic 160, 3) := by decide +kernel
theorem dX5_state_74 : decode cX5_state 74 = .ok (.ireturn, 1) := by decide +kernel
theorem dX5_state_75 : decode cX5_state 75 = .ok (.iload_n 2, 1) := by decide +kernel
theorem dX5_state_76 : decode cX5_state 76 = .ok (.iconst 5, 1) := by decide +kernel
theorem dX5_state_77 : decode cX5_state 77 = .ok (.if_icmp .lt 31, 3) := by decide +kernel
theorem dX5_state_80 : decode cX5_state 80 = .ok (.aload_n 0, 1) := by decide +kernel
theorem dX5_state_81 : decode cX5_state 81 = .ok (.getfield 12, 3) := by decide +kernel
theorem dX5_state_84 : decode cX5_state 84 = .ok (.iload_n 2, 1) := by decide +kernel
theorem dX5_state_85 : decode cX5_state 85 = .ok (.iconst 5, 1) := by decide +kernel
theorem dX5_state_86 : decode cX5_state 86 = .ok (.isub, 1) := by decide +kernel
theorem dX5_state_87 : decode cX5_state 87 = .ok (.invokevirtual 111, 3) := by decide +kernel
theorem dX5_state_90 : decode cX5_state 90 = .ok (.ifCond .eq 18, 3) := by decide +kernel
theorem dX5_state_93 : decode cX5_state 93 = .ok (.aload_n 0, 1) := by decide +kernel
theorem dX5_state_94 : decode cX5_state 94 = .ok (.getfield 19, 3) := by decide +kernel
theorem dX5_state_97 : decode cX5_state 97 = .ok (.iload_n 1, 1) := by decide +kernel
theorem dX5_state_98 : decode cX5_state 98 = .ok (.invokevirtual 157, 3) := by decide +kernel
theorem dX5_state_101 : decode cX5_state 101 = .ok (.iload_n 2, 1) := by decide +kernel
theorem dX5_state_102 : decode cX5_state 102 = .ok (.iconst 5, 1) := by decide +kernel
theorem dX5_state_103 : decode cX5_state 103 = .ok (.isub, 1) := by decide +kernel
theorem dX5_state_104 : decode cX5_state 104 = .ok (.invokestatic 163, 3) := by decide +kernel
theorem dX5_state_107 : decode cX5_state 107 = .ok (.ireturn, 1) := by decide +kernel
theorem dX5_state_108 : decode cX5_state 108 = .ok (.new 81, 3) := by decide +kernel
theorem dX5_state_111 : decode cX5_state 111 = .ok (.dup, 1) := by decide +kernel
theorem dX5_state_112 : decode cX5_state 112 = .ok (.ldc 166, 2) := by decide +kernel
theorem dX5_state_114 : decode cX5_state 114 = .ok (.invokespecial 85, 3) := by decide +kernel
theorem dX5_state_117 : decode cX5_state 117 = .ok (.athrow, 1) := by decide +kernel
theorem dX5_step_0 : decode cX5_step 0 = .ok (.aload_n 0, 1) := by decide +kernel
theorem dX5_step_1 : decode cX5_step 1 = .ok (.getfield 19, 3) := by decide +kernel
theorem dX5_step_4 : decode cX5_step 4 = .ok (.iload_n 1, 1) := by decide +kernel
theorem dX5_step_5 : decode cX5_step 5 = .ok (.invokevirtual 146, 3) := by decide +kernel
theorem dX5_step_8 : decode cX5_step 8 = .ok (.ifCond .ne 13, 3) := by decide +kernel
theorem dX5_step_11 : decode cX5_step 11 = .ok (.new 81, 3) := by decide +kernel
theorem dX5_step_14 : decode cX5_step 14 = .ok (.dup, 1) := by decide +kernel
theorem dX5_step_15 : decode cX5_step 15 = .ok (.ldc 149, 2) := by decide +kernel
theorem dX5_step_17 : decode cX5_step 17 = .ok (.invokespecial 85, 3) := by decide +kernel
theorem dX5_step_20 : decode cX5_step 20 = .ok (.athrow, 1) := by decide +kernel
theorem dX5_step_21 : decode cX5_step 21 = .ok (.iload_n 2, 1) := by decide +kernel
theorem dX5_step_22 : decode cX5_step 22 = .ok (.iconst 0, 1) := by decide +kernel
theorem dX5_step_23 : decode cX5_step 23 = .ok (.aload_n 0, 1) := by decide +kernel
theorem dX5_step_24 : decode cX5_step 24 = .ok (.getfield 19, 3) := by decide +kernel
theorem dX5_step_27 : decode cX5_step 27 = .ok (.iload_n 1, 1) := by decide +kernel
theorem dX5_step_28 : decode cX5_step 28 = .ok (.invokevirtual 151, 3) := by decide +kernel
theorem dX5_step_31 : decode cX5_step 31 = .ok (.iconst 1, 1) := by decide +kernel
theorem dX5_step_32 : decode cX5_step 32 = .ok (.isub, 1) := by decide +kernel
theorem dX5_step_33 : decode cX5_step 33 = .ok (.invokestatic 37, 3) := by decide +kernel
theorem dX5_step_36 : decode cX5_step 36 = .ok (.ifCond .ne 13, 3) := by decide +kernel
theorem dX5_step_39 : decode cX5_step 39 = .ok (.new 81, 3) := by decide +kernel
theorem dX5_step_42 : decode cX5_step 42 = .ok (.dup, 1) := by decide +kernel
theorem dX5_step_43 : decode cX5_step 43 = .ok (.ldc 168, 2) := by decide +kernel
theorem dX5_step_45 : decode cX5_step 45 = .ok (.invokespecial 85, 3) := by decide +kernel
theorem dX5_step_48 : decode cX5_step 48 = .ok (.athrow, 1) := by decide +kernel
theorem dX5_step_49 : decode cX5_step 49 = .ok (.iload_n 3, 1) := by decide +kernel
theorem dX5_step_50 : decode cX5_step 50 = .ok (.iconst 0, 1) := by decide +kernel
theorem dX5_step_51 : decode cX5_step 51 = .ok (.iconst 4, 1) := by decide +kernel
theorem dX5_step_52 : decode cX5_step 52 = .ok (.invokestatic 37, 3) := by decide +kernel
theorem dX5_step_55 : decode cX5_step 55 = .ok (.ifCond .ne 13, 3) := by decide +kernel
theorem dX5_step_58 : decode cX5_step 58 = .ok (.new 81, 3) := by decide +kernel
theorem dX5_step_61 : decode cX5_step 61 = .ok (.dup, 1) := by decide +kernel
theorem dX5_step_62 : decode cX5_step 62 = .ok (.ldc 170, 2) := by decide +kernel
theorem dX5_step_64 : decode cX5_step 64 = .ok (.invokespecial 85, 3) := by decide +kernel
theorem dX5_step_67 : decode cX5_step 67 = .ok (.athrow, 1) := by decide +kernel
theorem dX5_step_68 : decode cX5_step 68 = .ok (.aload_n 0, 1) := by decide +kernel
theorem dX5_step_69 : decode cX5_step 69 = .ok (.getfield 19, 3) := by decide +kernel
theorem dX5_step_72 : decode cX5_step 72 = .ok (.iload_n 1, 1) := by decide +kernel
theorem dX5_step_73 : decode cX5_step 73 = .ok (.iload_n 2, 1) := by decide +kernel
theorem dX5_step_74 : decode cX5_step 74 = .ok (.invokevirtual 172, 3) := by decide +kernel
theorem dX5_step_77 : decode cX5_step 77 = .ok (.iload_n 3, 1) := by decide +kernel
theorem dX5_step_78 : decode cX5_step 78 = .ok (.invokestatic 175, 3) := by decide +kernel
theorem dX5_step_81 : decode cX5_step 81 = .ok (.ireturn, 1) := by decide +kernel
theorem dX5_addFact_0 : decode cX5_addFact 0 = .ok (.aload_n 0, 1) := by decide +kernel
theorem dX5_addFact_1 : decode cX5_addFact 1 = .ok (.iload_n 1, 1) := by decide +kernel
theorem dX5_addFact_2 : decode cX5_addFact 2 = .ok (.iload_n 2, 1) := by decide +kernel
theorem dX5_addFact_3 : decode cX5_addFact 3 = .ok (.iload_n 3, 1) := by decide +kernel
theorem dX5_addFact_4 : decode cX5_addFact 4 = .ok (.invokevirtual 178, 3) := by decide +kernel
theorem dX5_addFact_7 : decode cX5_addFact 7 = .ok (.ifCond .ne 13, 3) := by decide +kernel
theorem dX5_addFact_10 : decode cX5_addFact 10 = .ok (.new 41, 3) := by decide +kernel
theorem dX5_addFact_13 : decode cX5_addFact 13 = .ok (.dup, 1) := by decide +kernel
theorem dX5_addFact_14 : decode cX5_addFact 14 = .ok (.ldc 181, 2) := by decide +kernel
theorem dX5_addFact_16 : decode cX5_addFact 16 = .ok (.invokespecial 45, 3) := by decide +kernel
theorem dX5_addFact_19 : decode cX5_addFact 19 = .ok (.athrow, 1) := by decide +kernel
theorem dX5_addFact_20 : decode cX5_addFact 20 = .ok (.aload_n 0, 1) := by decide +kernel
theorem dX5_addFact_21 : decode cX5_addFact 21 = .ok (.getfield 26, 3) := by decide +kernel
theorem dX5_addFact_24 : decode cX5_addFact 24 = .ok (.getfield 183, 3) := by decide +kernel
theorem dX5_addFact_27 : decode cX5_addFact 27 = .ok (.bipush 12, 2) := by decide +kernel
theorem dX5_addFact_29 : decode cX5_addFact 29 = .ok (.if_icmp .lt 13, 3) := by decide +kernel
theorem dX5_addFact_32 : decode cX5_addFact 32 = .ok (.new 52, 3) := by decide +kernel
theorem dX5_addFact_35 : decode cX5_addFact 35 = .ok (.dup, 1) := by decide +kernel
theorem dX5_addFact_36 : decode cX5_addFact 36 = .ok (.ldc 186, 2) := by decide +kernel
theorem dX5_addFact_38 : decode cX5_addFact 38 = .ok (.invokespecial 56, 3) := by decide +kernel
theorem dX5_addFact_41 : decode cX5_addFact 41 = .ok (.athrow, 1) := by decide +kernel
theorem dX5_addFact_42 : decode cX5_addFact 42 = .ok (.aload_n 0, 1) := by decide +kernel
theorem dX5_addFact_43 : decode cX5_addFact 43 = .ok (.getfield 26, 3) := by decide +kernel
theorem dX5_addFact_46 : decode cX5_addFact 46 = .ok (.iload_n 1, 1) := by decide +kernel
theorem dX5_addFact_47 : decode cX5_addFact 47 = .ok (.iload_n 2, 1) := by decide +kernel
theorem dX5_addFact_48 : decode cX5_addFact 48 = .ok (.iload_n 3, 1) := by decide +kernel
theorem dX5_addFact_49 : decode cX5_addFact 49 = .ok (.invokevirtual 188, 3) := by decide +kernel
theorem dX5_addFact_52 : decode cX5_addFact 52 = .ok (.ireturn, 1) := by decide +kernel
theorem dX5_holds_0 : decode cX5_holds 0 = .ok (.aload_n 0, 1) := by decide +kernel
theorem dX5_holds_1 : decode cX5_holds 1 = .ok (.getfield 26, 3) := by decide +kernel
theorem dX5_holds_4 : decode cX5_holds 4 = .ok (.iload_n 1, 1) := by decide +kernel
theorem dX5_holds_5 : decode cX5_holds 5 = .ok (.invokevirtual 191, 3) := by decide +kernel
theorem dX5_holds_8 : decode cX5_holds 8 = .ok (.ifCond .ne 13, 3) := by decide +kernel
theorem dX5_holds_11 : decode cX5_holds 11 = .ok (.new 81, 3) := by decide +kernel
theorem dX5_holds_14 : decode cX5_holds 14 = .ok (.dup, 1) := by decide +kernel
theorem dX5_holds_15 : decode cX5_holds 15 = .ok (.ldc 194, 2) := by decide +kernel
theorem dX5_holds_17 : decode cX5_holds 17 = .ok (.invokespecial 85, 3) := by decide +kernel
theorem dX5_holds_20 : decode cX5_holds 20 = .ok (.athrow, 1) := by decide +kernel
theorem dX5_holds_21 : decode cX5_holds 21 = .ok (.aload_n 0, 1) := by decide +kernel
theorem dX5_holds_22 : decode cX5_holds 22 = .ok (.getfield 19, 3) := by decide +kernel
theorem dX5_holds_25 : decode cX5_holds 25 = .ok (.iload_n 2, 1) := by decide +kernel
theorem dX5_holds_26 : decode cX5_holds 26 = .ok (.invokevirtual 146, 3) := by decide +kernel
theorem dX5_holds_29 : decode cX5_holds 29 = .ok (.ifCond .ne 13, 3) := by decide +kernel
theorem dX5_holds_32 : decode cX5_holds 32 = .ok (.new 81, 3) := by decide +kernel
theorem dX5_holds_35 : decode cX5_holds 35 = .ok (.dup, 1) := by decide +kernel
theorem dX5_holds_36 : decode cX5_holds 36 = .ok (.ldc 149, 2) := by decide +kernel
theorem dX5_holds_38 : decode cX5_holds 38 = .ok (.invokespecial 85, 3) := by decide +kernel
theorem dX5_holds_41 : decode cX5_holds 41 = .ok (.athrow, 1) := by decide +kernel
theorem dX5_holds_42 : decode cX5_holds 42 = .ok (.aload_n 0, 1) := by decide +kernel
theorem dX5_holds_43 : decode cX5_holds 43 = .ok (.getfield 26, 3) := by decide +kernel
theorem dX5_holds_46 : decode cX5_holds 46 = .ok (.iload_n 1, 1) := by decide +kernel
theorem dX5_holds_47 : decode cX5_holds 47 = .ok (.aload_n 0, 1) := by decide +kernel
theorem dX5_holds_48 : decode cX5_holds 48 = .ok (.getfield 19, 3) := by decide +kernel
theorem dX5_holds_51 : decode cX5_holds 51 = .ok (.iload_n 2, 1) := by decide +kernel
theorem dX5_holds_52 : decode cX5_holds 52 = .ok (.invokevirtual 157, 3) := by decide +kernel
theorem dX5_holds_55 : decode cX5_holds 55 = .ok (.invokevirtual 196, 3) := by decide +kernel
theorem dX5_holds_58 : decode cX5_holds 58 = .ok (.ireturn, 1) := by decide +kernel
theorem dX5_leads_0 : decode cX5_leads 0 = .ok (.aload_n 0, 1) := by decide +kernel
theorem dX5_leads_1 : decode cX5_leads 1 = .ok (.getfield 26, 3) := by decide +kernel
theorem dX5_leads_4 : decode cX5_leads 4 = .ok (.iload_n 1, 1) := by decide +kernel
theorem dX5_leads_5 : decode cX5_leads 5 = .ok (.invokevirtual 191, 3) := by decide +kernel
theorem dX5_leads_8 : decode cX5_leads 8 = .ok (.ifCond .eq 14, 3) := by decide +kernel
theorem dX5_leads_11 : decode cX5_leads 11 = .ok (.aload_n 0, 1) := by decide +kernel
theorem dX5_leads_12 : decode cX5_leads 12 = .ok (.getfield 26, 3) := by decide +kernel
theorem dX5_leads_15 : decode cX5_leads 15 = .ok (.iload_n 2, 1) := by decide +kernel
theorem dX5_leads_16 : decode cX5_leads 16 = .ok (.invokevirtual 191, 3) := by decide +kernel
theorem dX5_leads_19 : decode cX5_leads 19 = .ok (.ifCond .ne 13, 3) := by decide +kernel
theorem dX5_leads_22 : decode cX5_leads 22 = .ok (.new 81, 3) := by decide +kernel
theorem dX5_leads_25 : decode cX5_leads 25 = .ok (.dup, 1) := by decide +kernel
theorem dX5_leads_26 : decode cX5_leads 26 = .ok (.ldc 194, 2) := by decide +kernel
theorem dX5_leads_28 : decode cX5_leads 28 = .ok (.invokespecial 85, 3) := by decide +kernel
theorem dX5_leads_31 : decode cX5_leads 31 = .ok (.athrow, 1) := by decide +kernel
theorem dX5_leads_32 : decode cX5_leads 32 = .ok (.aload_n 0, 1) := by decide +kernel
theorem dX5_leads_33 : decode cX5_leads 33 = .ok (.getfield 19, 3) := by decide +kernel
theorem dX5_leads_36 : decode cX5_leads 36 = .ok (.invokevirtual 199, 3) := by decide +kernel
theorem dX5_leads_39 : decode cX5_leads 39 = .ok (.ifCond .ne 13, 3) := by decide +kernel
theorem dX5_leads_42 : decode cX5_leads 42 = .ok (.new 52, 3) := by decide +kernel
theorem dX5_leads_45 : decode cX5_leads 45 = .ok (.dup, 1) := by decide +kernel
theorem dX5_leads_46 : decode cX5_leads 46 = .ok (.ldc 203, 2) := by decide +kernel
theorem dX5_leads_48 : decode cX5_leads 48 = .ok (.invokespecial 56, 3) := by decide +kernel
theorem dX5_leads_51 : decode cX5_leads 51 = .ok (.athrow, 1) := by decide +kernel
theorem dX5_leads_52 : decode cX5_leads 52 = .ok (.aload_n 0, 1) := by decide +kernel
theorem dX5_leads_53 : decode cX5_leads 53 = .ok (.getfield 33, 3) := by decide +kernel
theorem dX5_leads_56 : decode cX5_leads 56 = .ok (.iload_n 2, 1) := by decide +kernel
theorem dX5_leads_57 : decode cX5_leads 57 = .ok (.aload_n 0, 1) := by decide +kernel
theorem dX5_leads_58 : decode cX5_leads 58 = .ok (.getfield 19, 3) := by decide +kernel
theorem dX5_leads_61 : decode cX5_leads 61 = .ok (.aload_n 0, 1) := by decide +kernel
theorem dX5_leads_62 : decode cX5_leads 62 = .ok (.getfield 26, 3) := by decide +kernel
theorem dX5_leads_65 : decode cX5_leads 65 = .ok (.aload_n 0, 1) := by decide +kernel
theorem dX5_leads_66 : decode cX5_leads 66 = .ok (.getfield 12, 3) := by decide +kernel
theorem dX5_leads_69 : decode cX5_leads 69 = .ok (.getfield 48, 3) := by decide +kernel
theorem dX5_leads_72 : decode cX5_leads 72 = .ok (.invokevirtual 214, 3) := by decide +kernel
theorem dX5_leads_75 : decode cX5_leads 75 = .ok (.iconst 0, 1) := by decide +kernel
theorem dX5_leads_76 : decode cX5_leads 76 = .ok (.istore_n 3, 1) := by decide +kernel
theorem dX5_leads_77 : decode cX5_leads 77 = .ok (.iload_n 3, 1) := by decide +kernel
theorem dX5_leads_78 : decode cX5_leads 78 = .ok (.aload_n 0, 1) := by decide +kernel
theorem dX5_leads_79 : decode cX5_leads 79 = .ok (.getfield 19, 3) := by decide +kernel
theorem dX5_leads_82 : decode cX5_leads 82 = .ok (.getfield 211, 3) := by decide +kernel
theorem dX5_leads_85 : decode cX5_leads 85 = .ok (.if_icmp .ge 41, 3) := by decide +kernel
theorem dX5_leads_88 : decode cX5_leads 88 = .ok (.aload_n 0, 1) := by decide +kernel
theorem dX5_leads_89 : decode cX5_leads 89 = .ok (.getfield 33, 3) := by decide +kernel
theorem dX5_leads_92 : decode cX5_leads 92 = .ok (.iload_n 3, 1) := by decide +kernel
theorem dX5_leads_93 : decode cX5_leads 93 = .ok (.invokevirtual 218, 3) := by decide +kernel
theorem dX5_leads_96 : decode cX5_leads 96 = .ok (.ifCond .eq 24, 3) := by decide +kernel
theorem dX5_leads_99 : decode cX5_leads 99 = .ok (.aload_n 0, 1) := by decide +kernel
theorem dX5_leads_100 : decode cX5_leads 100 = .ok (.getfield 26, 3) := by decide +kernel
theorem dX5_leads_103 : decode cX5_leads 103 = .ok (.iload_n 1, 1) := by decide +kernel
theorem dX5_leads_104 : decode cX5_leads 104 = .ok (.aload_n 0, 1) := by decide +kernel
theorem dX5_leads_105 : decode cX5_leads 105 = .ok (.getfield 19, 3) := by decide +kernel
theorem dX5_leads_108 : decode cX5_leads 108 = .ok (.iload_n 3, 1) := by decide +kernel
theorem dX5_leads_109 : decode cX5_leads 109 = .ok (.invokevirtual 157, 3) := by decide +kernel
theorem dX5_leads_112 : decode cX5_leads 112 = .ok (.invokevirtual 196, 3) := by decide +kernel
theorem dX5_leads_115 : decode cX5_leads 115 = .ok (.ifCond .eq 5, 3) := by decide +kernel
theorem dX5_leads_118 : decode cX5_leads 118 = .ok (.iload_n 3, 1) := by decide +kernel
theorem dX5_leads_119 : decode cX5_leads 119 = .ok (.ireturn, 1) := by decide +kernel
theorem dX5_leads_120 : decode cX5_leads 120 = .ok (.iinc 3 1, 3) := by decide +kernel
theorem dX5_leads_123 : decode cX5_leads 123 = .ok (.goto (-46), 3) := by decide +kernel
theorem dX5_leads_126 : decode cX5_leads 126 = .ok (.iconst (-1), 1) := by decide +kernel
theorem dX5_leads_127 : decode cX5_leads 127 = .ok (.ireturn, 1) := by decide +kernel
theorem dX5_isBad_0 : decode cX5_isBad 0 = .ok (.aload_n 0, 1) := by decide +kernel
theorem dX5_isBad_1 : decode cX5_isBad 1 = .ok (.getfield 26, 3) := by decide +kernel
theorem dX5_isBad_4 : decode cX5_isBad 4 = .ok (.iload_n 1, 1) := by decide +kernel
theorem dX5_isBad_5 : decode cX5_isBad 5 = .ok (.invokevirtual 191, 3) := by decide +kernel
theorem dX5_isBad_8 : decode cX5_isBad 8 = .ok (.ifCond .ne 13, 3) := by decide +kernel
theorem dX5_isBad_11 : decode cX5_isBad 11 = .ok (.new 81, 3) := by decide +kernel
theorem dX5_isBad_14 : decode cX5_isBad 14 = .ok (.dup, 1) := by decide +kernel
theorem dX5_isBad_15 : decode cX5_isBad 15 = .ok (.ldc 194, 2) := by decide +kernel
theorem dX5_isBad_17 : decode cX5_isBad 17 = .ok (.invokespecial 85, 3) := by decide +kernel
theorem dX5_isBad_20 : decode cX5_isBad 20 = .ok (.athrow, 1) := by decide +kernel
theorem dX5_isBad_21 : decode cX5_isBad 21 = .ok (.aload_n 0, 1) := by decide +kernel
theorem dX5_isBad_22 : decode cX5_isBad 22 = .ok (.getfield 19, 3) := by decide +kernel
theorem dX5_isBad_25 : decode cX5_isBad 25 = .ok (.iload_n 2, 1) := by decide +kernel
theorem dX5_isBad_26 : decode cX5_isBad 26 = .ok (.invokevirtual 146, 3) := by decide +kernel
theorem dX5_isBad_29 : decode cX5_isBad 29 = .ok (.ifCond .ne 13, 3) := by decide +kernel
theorem dX5_isBad_32 : decode cX5_isBad 32 = .ok (.new 81, 3) := by decide +kernel
theorem dX5_isBad_35 : decode cX5_isBad 35 = .ok (.dup, 1) := by decide +kernel
theorem dX5_isBad_36 : decode cX5_isBad 36 = .ok (.ldc 149, 2) := by decide +kernel
theorem dX5_isBad_38 : decode cX5_isBad 38 = .ok (.invokespecial 85, 3) := by decide +kernel
theorem dX5_isBad_41 : decode cX5_isBad 41 = .ok (.athrow, 1) := by decide +kernel
theorem dX5_isBad_42 : decode cX5_isBad 42 = .ok (.aload_n 0, 1) := by decide +kernel
theorem dX5_isBad_43 : decode cX5_isBad 43 = .ok (.getfield 33, 3) := by decide +kernel
theorem dX5_isBad_46 : decode cX5_isBad 46 = .ok (.iload_n 1, 1) := by decide +kernel
theorem dX5_isBad_47 : decode cX5_isBad 47 = .ok (.aload_n 0, 1) := by decide +kernel
theorem dX5_isBad_48 : decode cX5_isBad 48 = .ok (.getfield 19, 3) := by decide +kernel
theorem dX5_isBad_51 : decode cX5_isBad 51 = .ok (.aload_n 0, 1) := by decide +kernel
theorem dX5_isBad_52 : decode cX5_isBad 52 = .ok (.getfield 26, 3) := by decide +kernel
theorem dX5_isBad_55 : decode cX5_isBad 55 = .ok (.aload_n 0, 1) := by decide +kernel
theorem dX5_isBad_56 : decode cX5_isBad 56 = .ok (.getfield 12, 3) := by decide +kernel
theorem dX5_isBad_59 : decode cX5_isBad 59 = .ok (.getfield 48, 3) := by decide +kernel
theorem dX5_isBad_62 : decode cX5_isBad 62 = .ok (.invokevirtual 214, 3) := by decide +kernel
theorem dX5_isBad_65 : decode cX5_isBad 65 = .ok (.aload_n 0, 1) := by decide +kernel
theorem dX5_isBad_66 : decode cX5_isBad 66 = .ok (.getfield 33, 3) := by decide +kernel
theorem dX5_isBad_69 : decode cX5_isBad 69 = .ok (.iload_n 2, 1) := by decide +kernel
theorem dX5_isBad_70 : decode cX5_isBad 70 = .ok (.invokevirtual 218, 3) := by decide +kernel
theorem dX5_isBad_73 : decode cX5_isBad 73 = .ok (.ireturn, 1) := by decide +kernel
theorem dX5_way_0 : decode cX5_way 0 = .ok (.aload_n 0, 1) := by decide +kernel
theorem dX5_way_1 : decode cX5_way 1 = .ok (.getfield 19, 3) := by decide +kernel
theorem dX5_way_4 : decode cX5_way 4 = .ok (.iload_n 1, 1) := by decide +kernel
theorem dX5_way_5 : decode cX5_way 5 = .ok (.invokevirtual 146, 3) := by decide +kernel
theorem dX5_way_8 : decode cX5_way 8 = .ok (.ifCond .ne 13, 3) := by decide +kernel
theorem dX5_way_11 : decode cX5_way 11 = .ok (.new 81, 3) := by decide +kernel
theorem dX5_way_14 : decode cX5_way 14 = .ok (.dup, 1) := by decide +kernel
theorem dX5_way_15 : decode cX5_way 15 = .ok (.ldc 149, 2) := by decide +kernel
theorem dX5_way_17 : decode cX5_way 17 = .ok (.invokespecial 85, 3) := by decide +kernel
theorem dX5_way_20 : decode cX5_way 20 = .ok (.athrow, 1) := by decide +kernel
theorem dX5_way_21 : decode cX5_way 21 = .ok (.iload_n 2, 1) := by decide +kernel
theorem dX5_way_22 : decode cX5_way 22 = .ok (.iconst 0, 1) := by decide +kernel
theorem dX5_way_23 : decode cX5_way 23 = .ok (.sipush 400, 3) := by decide +kernel
theorem dX5_way_26 : decode cX5_way 26 = .ok (.invokestatic 37, 3) := by decide +kernel
theorem dX5_way_29 : decode cX5_way 29 = .ok (.ifCond .ne 13, 3) := by decide +kernel
theorem dX5_way_32 : decode cX5_way 32 = .ok (.new 81, 3) := by decide +kernel
theorem dX5_way_35 : decode cX5_way 35 = .ok (.dup, 1) := by decide +kernel
theorem dX5_way_36 : decode cX5_way 36 = .ok (.ldc 224, 2) := by decide +kernel
theorem dX5_way_38 : decode cX5_way 38 = .ok (.invokespecial 85, 3) := by decide +kernel
theorem dX5_way_41 : decode cX5_way 41 = .ok (.athrow, 1) := by decide +kernel
theorem dX5_way_42 : decode cX5_way 42 = .ok (.iload_n 3, 1) := by decide +kernel
theorem dX5_way_43 : decode cX5_way 43 = .ok (.iconst 0, 1) := by decide +kernel
theorem dX5_way_44 : decode cX5_way 44 = .ok (.iconst 1, 1) := by decide +kernel
theorem dX5_way_45 : decode cX5_way 45 = .ok (.invokestatic 37, 3) := by decide +kernel
theorem dX5_way_48 : decode cX5_way 48 = .ok (.ifCond .ne 13, 3) := by decide +kernel
theorem dX5_way_51 : decode cX5_way 51 = .ok (.new 81, 3) := by decide +kernel
theorem dX5_way_54 : decode cX5_way 54 = .ok (.dup, 1) := by decide +kernel
theorem dX5_way_55 : decode cX5_way 55 = .ok (.ldc 226, 2) := by decide +kernel
theorem dX5_way_57 : decode cX5_way 57 = .ok (.invokespecial 85, 3) := by decide +kernel
theorem dX5_way_60 : decode cX5_way 60 = .ok (.athrow, 1) := by decide +kernel
theorem dX5_way_61 : decode cX5_way 61 = .ok (.iload_n 2, 1) := by decide +kernel
theorem dX5_way_62 : decode cX5_way 62 = .ok (.aload_n 0, 1) := by decide +kernel
theorem dX5_way_63 : decode cX5_way 63 = .ok (.getfield 19, 3) := by decide +kernel
theorem dX5_way_66 : decode cX5_way 66 = .ok (.iload_n 1, 1) := by decide +kernel
theorem dX5_way_67 : decode cX5_way 67 = .ok (.invokevirtual 154, 3) := by decide +kernel
theorem dX5_way_70 : decode cX5_way 70 = .ok (.if_icmp .lt 5, 3) := by decide +kernel
theorem dX5_way_73 : decode cX5_way 73 = .ok (.iconst (-1), 1) := by decide +kernel
theorem dX5_way_74 : decode cX5_way 74 = .ok (.ireturn, 1) := by decide +kernel
theorem dX5_way_75 : decode cX5_way 75 = .ok (.aload_n 0, 1) := by decide +kernel
theorem dX5_way_76 : decode cX5_way 76 = .ok (.getfield 19, 3) := by decide +kernel
theorem dX5_way_79 : decode cX5_way 79 = .ok (.iload_n 1, 1) := by decide +kernel
theorem dX5_way_80 : decode cX5_way 80 = .ok (.iload_n 2, 1) := by decide +kernel
theorem dX5_way_81 : decode cX5_way 81 = .ok (.iconst 1, 1) := by decide +kernel
theorem dX5_way_82 : decode cX5_way 82 = .ok (.iadd, 1) := by decide +kernel
theorem dX5_way_83 : decode cX5_way 83 = .ok (.invokevirtual 228, 3) := by decide +kernel
theorem dX5_way_86 : decode cX5_way 86 = .ok (.istore 4, 2) := by decide +kernel
theorem dX5_way_88 : decode cX5_way 88 = .ok (.iload_n 3, 1) := by decide +kernel
theorem dX5_way_89 : decode cX5_way 89 = .ok (.ifCond .ne 15, 3) := by decide +kernel
theorem dX5_way_92 : decode cX5_way 92 = .ok (.aload_n 0, 1) := by decide +kernel
theorem dX5_way_93 : decode cX5_way 93 = .ok (.getfield 19, 3) := by decide +kernel
theorem dX5_way_96 : decode cX5_way 96 = .ok (.iload 4, 2) := by decide +kernel
theorem dX5_way_98 : decode cX5_way 98 = .ok (.invokevirtual 231, 3) := by decide +kernel
theorem dX5_way_101 : decode cX5_way 101 = .ok (.goto 12, 3) := by decide +kernel
theorem dX5_way_104 : decode cX5_way 104 = .ok (.aload_n 0, 1) := by decide +kernel
theorem dX5_way_105 : decode cX5_way 105 = .ok (.getfield 19, 3) := by decide +kernel
theorem dX5_way_108 : decode cX5_way 108 = .ok (.iload 4, 2) := by decide +kernel
theorem dX5_way_110 : decode cX5_way 110 = .ok (.invokevirtual 234, 3) := by decide +kernel
theorem dX5_way_113 : decode cX5_way 113 = .ok (.ireturn, 1) := by decide +kernel
theorem dX5_isBetween_0 : decode cX5_isBetween 0 = .ok (.iload_n 0, 1) := by decide +kernel
theorem dX5_isBetween_1 : decode cX5_isBetween 1 = .ok (.iload_n 1, 1) := by decide +kernel
theorem dX5_isBetween_2 : decode cX5_isBetween 2 = .ok (.if_icmp .lt 12, 3) := by decide +kernel
theorem dX5_isBetween_5 : decode cX5_isBetween 5 = .ok (.iload_n 0, 1) := by decide +kernel
theorem dX5_isBetween_6 : decode cX5_isBetween 6 = .ok (.iload_n 2, 1) := by decide +kernel
theorem dX5_isBetween_7 : decode cX5_isBetween 7 = .ok (.if_icmp .gt 7, 3) := by decide +kernel
theorem dX5_isBetween_10 : decode cX5_isBetween 10 = .ok (.iconst 1, 1) := by decide +kernel
theorem dX5_isBetween_11 : decode cX5_isBetween 11 = .ok (.goto 4, 3) := by decide +kernel
theorem dX5_isBetween_14 : decode cX5_isBetween 14 = .ok (.iconst 0, 1) := by decide +kernel
theorem dX5_isBetween_15 : decode cX5_isBetween 15 = .ok (.ireturn, 1) := by decide +kernel
theorem dX5_canBeFact_0 : decode cX5_canBeFact 0 = .ok (.iload_n 1, 1) := by decide +kernel
theorem dX5_canBeFact_1 : decode cX5_canBeFact 1 = .ok (.tableswitch 125 0 5 #[39, 49, 49, 76, 97, 97], 39) := by decide +kernel
theorem dX5_canBeFact_40 : decode cX5_canBeFact 40 = .ok (.aload_n 0, 1) := by decide +kernel
theorem dX5_canBeFact_41 : decode cX5_canBeFact 41 = .ok (.getfield 12, 3) := by decide +kernel
theorem dX5_canBeFact_44 : decode cX5_canBeFact 44 = .ok (.iload_n 2, 1) := by decide +kernel
theorem dX5_canBeFact_45 : decode cX5_canBeFact 45 = .ok (.iload_n 3, 1) := by decide +kernel
theorem dX5_canBeFact_46 : decode cX5_canBeFact 46 = .ok (.invokevirtual 86, 3) := by decide +kernel
theorem dX5_canBeFact_49 : decode cX5_canBeFact 49 = .ok (.ireturn, 1) := by decide +kernel
theorem dX5_canBeFact_50 : decode cX5_canBeFact 50 = .ok (.aload_n 0, 1) := by decide +kernel
theorem dX5_canBeFact_51 : decode cX5_canBeFact 51 = .ok (.getfield 12, 3) := by decide +kernel
theorem dX5_canBeFact_54 : decode cX5_canBeFact 54 = .ok (.iload_n 2, 1) := by decide +kernel
theorem dX5_canBeFact_55 : decode cX5_canBeFact 55 = .ok (.invokevirtual 111, 3) := by decide +kernel
theorem dX5_canBeFact_58 : decode cX5_canBeFact 58 = .ok (.ifCond .eq 17, 3) := by decide +kernel
theorem dX5_canBeFact_61 : decode cX5_canBeFact 61 = .ok (.iload_n 3, 1) := by decide +kernel
theorem dX5_canBeFact_62 : decode cX5_canBeFact 62 = .ok (.iconst 0, 1) := by decide +kernel
theorem dX5_canBeFact_63 : decode cX5_canBeFact 63 = .ok (.bipush 9, 2) := by decide +kernel
theorem dX5_canBeFact_65 : decode cX5_canBeFact 65 = .ok (.invokestatic 37, 3) := by decide +kernel
theorem dX5_canBeFact_68 : decode cX5_canBeFact 68 = .ok (.ifCond .eq 7, 3) := by decide +kernel
theorem dX5_canBeFact_71 : decode cX5_canBeFact 71 = .ok (.iconst 1, 1) := by decide +kernel
theorem dX5_canBeFact_72 : decode cX5_canBeFact 72 = .ok (.goto 4, 3) := by decide +kernel
theorem dX5_canBeFact_75 : decode cX5_canBeFact 75 = .ok (.iconst 0, 1) := by decide +kernel
theorem dX5_canBeFact_76 : decode cX5_canBeFact 76 = .ok (.ireturn, 1) := by decide +kernel
theorem dX5_canBeFact_77 : decode cX5_canBeFact 77 = .ok (.aload_n 0, 1) := by decide +kernel
theorem dX5_canBeFact_78 : decode cX5_canBeFact 78 = .ok (.getfield 26, 3) := by decide +kernel
theorem dX5_canBeFact_81 : decode cX5_canBeFact 81 = .ok (.iload_n 2, 1) := by decide +kernel
theorem dX5_canBeFact_82 : decode cX5_canBeFact 82 = .ok (.invokevirtual 191, 3) := by decide +kernel
theorem dX5_canBeFact_85 : decode cX5_canBeFact 85 = .ok (.ifCond .eq 11, 3) := by decide +kernel
theorem dX5_canBeFact_88 : decode cX5_canBeFact 88 = .ok (.iload_n 3, 1) := by decide +kernel
theorem dX5_canBeFact_89 : decode cX5_canBeFact 89 = .ok (.ifCond .ne 7, 3) := by decide +kernel
theorem dX5_canBeFact_92 : decode cX5_canBeFact 92 = .ok (.iconst 1, 1) := by decide +kernel
theorem dX5_canBeFact_93 : decode cX5_canBeFact 93 = .ok (.goto 4, 3) := by decide +kernel
theorem dX5_canBeFact_96 : decode cX5_canBeFact 96 = .ok (.iconst 0, 1) := by decide +kernel
theorem dX5_canBeFact_97 : decode cX5_canBeFact 97 = .ok (.ireturn, 1) := by decide +kernel
theorem dX5_canBeFact_98 : decode cX5_canBeFact 98 = .ok (.aload_n 0, 1) := by decide +kernel
theorem dX5_canBeFact_99 : decode cX5_canBeFact 99 = .ok (.getfield 26, 3) := by decide +kernel
theorem dX5_canBeFact_102 : decode cX5_canBeFact 102 = .ok (.iload_n 2, 1) := by decide +kernel
theorem dX5_canBeFact_103 : decode cX5_canBeFact 103 = .ok (.invokevirtual 191, 3) := by decide +kernel
theorem dX5_canBeFact_106 : decode cX5_canBeFact 106 = .ok (.ifCond .eq 18, 3) := by decide +kernel
theorem dX5_canBeFact_109 : decode cX5_canBeFact 109 = .ok (.aload_n 0, 1) := by decide +kernel
theorem dX5_canBeFact_110 : decode cX5_canBeFact 110 = .ok (.getfield 26, 3) := by decide +kernel
theorem dX5_canBeFact_113 : decode cX5_canBeFact 113 = .ok (.iload_n 3, 1) := by decide +kernel
theorem dX5_canBeFact_114 : decode cX5_canBeFact 114 = .ok (.invokevirtual 191, 3) := by decide +kernel
theorem dX5_canBeFact_117 : decode cX5_canBeFact 117 = .ok (.ifCond .eq 7, 3) := by decide +kernel
theorem dX5_canBeFact_120 : decode cX5_canBeFact 120 = .ok (.iconst 1, 1) := by decide +kernel
theorem dX5_canBeFact_121 : decode cX5_canBeFact 121 = .ok (.goto 4, 3) := by decide +kernel
theorem dX5_canBeFact_124 : decode cX5_canBeFact 124 = .ok (.iconst 0, 1) := by decide +kernel
theorem dX5_canBeFact_125 : decode cX5_canBeFact 125 = .ok (.ireturn, 1) := by decide +kernel
theorem dX5_canBeFact_126 : decode cX5_canBeFact 126 = .ok (.iconst 0, 1) := by decide +kernel
theorem dX5_canBeFact_127 : decode cX5_canBeFact 127 = .ok (.ireturn, 1) := by decide +kernel
theorem dX5_locationIn_0 : decode cX5_locationIn 0 = .ok (.iload_n 0, 1) := by decide +kernel
theorem dX5_locationIn_1 : decode cX5_locationIn 1 = .ok (.iconst 3, 1) := by decide +kernel
theorem dX5_locationIn_2 : decode cX5_locationIn 2 = .ok (.iload_n 1, 1) := by decide +kernel
theorem dX5_locationIn_3 : decode cX5_locationIn 3 = .ok (.imul, 1) := by decide +kernel
theorem dX5_locationIn_4 : decode cX5_locationIn 4 = .ok (.iushr, 1) := by decide +kernel
theorem dX5_locationIn_5 : decode cX5_locationIn 5 = .ok (.bipush 7, 2) := by decide +kernel
theorem dX5_locationIn_7 : decode cX5_locationIn 7 = .ok (.iand, 1) := by decide +kernel
theorem dX5_locationIn_8 : decode cX5_locationIn 8 = .ok (.ireturn, 1) := by decide +kernel
theorem dX5_withLocation_0 : decode cX5_withLocation 0 = .ok (.iconst 3, 1) := by decide +kernel
theorem dX5_withLocation_1 : decode cX5_withLocation 1 = .ok (.iload_n 1, 1) := by decide +kernel
theorem dX5_withLocation_2 : decode cX5_withLocation 2 = .ok (.imul, 1) := by decide +kernel
theorem dX5_withLocation_3 : decode cX5_withLocation 3 = .ok (.istore_n 3, 1) := by decide +kernel
theorem dX5_withLocation_4 : decode cX5_withLocation 4 = .ok (.iload_n 0, 1) := by decide +kernel
theorem dX5_withLocation_5 : decode cX5_withLocation 5 = .ok (.bipush 7, 2) := by decide +kernel
theorem dX5_withLocation_7 : decode cX5_withLocation 7 = .ok (.iload_n 3, 1) := by decide +kernel
theorem dX5_withLocation_8 : decode cX5_withLocation 8 = .ok (.ishl, 1) := by decide +kernel
theorem dX5_withLocation_9 : decode cX5_withLocation 9 = .ok (.iconst (-1), 1) := by decide +kernel
theorem dX5_withLocation_10 : decode cX5_withLocation 10 = .ok (.ixor, 1) := by decide +kernel
theorem dX5_withLocation_11 : decode cX5_withLocation 11 = .ok (.iand, 1) := by decide +kernel
theorem dX5_withLocation_12 : decode cX5_withLocation 12 = .ok (.iload_n 2, 1) := by decide +kernel
theorem dX5_withLocation_13 : decode cX5_withLocation 13 = .ok (.iload_n 3, 1) := by decide +kernel
theorem dX5_withLocation_14 : decode cX5_withLocation 14 = .ok (.ishl, 1) := by decide +kernel
theorem dX5_withLocation_15 : decode cX5_withLocation 15 = .ok (.ior, 1) := by decide +kernel
theorem dX5_withLocation_16 : decode cX5_withLocation 16 = .ok (.ireturn, 1) := by decide +kernel
theorem dX5_valueIn_0 : decode cX5_valueIn 0 = .ok (.iload_n 0, 1) := by decide +kernel
theorem dX5_valueIn_1 : decode cX5_valueIn 1 = .ok (.bipush 15, 2) := by decide +kernel
theorem dX5_valueIn_3 : decode cX5_valueIn 3 = .ok (.iconst 4, 1) := by decide +kernel
theorem dX5_valueIn_4 : decode cX5_valueIn 4 = .ok (.iload_n 1, 1) := by decide +kernel
theorem dX5_valueIn_5 : decode cX5_valueIn 5 = .ok (.imul, 1) := by decide +kernel
theorem dX5_valueIn_6 : decode cX5_valueIn 6 = .ok (.iadd, 1) := by decide +kernel
theorem dX5_valueIn_7 : decode cX5_valueIn 7 = .ok (.iushr, 1) := by decide +kernel
theorem dX5_valueIn_8 : decode cX5_valueIn 8 = .ok (.bipush 15, 2) := by decide +kernel
theorem dX5_valueIn_10 : decode cX5_valueIn 10 = .ok (.iand, 1) := by decide +kernel
theorem dX5_valueIn_11 : decode cX5_valueIn 11 = .ok (.ireturn, 1) := by decide +kernel
theorem dX5_withValue_0 : decode cX5_withValue 0 = .ok (.bipush 15, 2) := by decide +kernel
theorem dX5_withValue_2 : decode cX5_withValue 2 = .ok (.iconst 4, 1) := by decide +kernel
theorem dX5_withValue_3 : decode cX5_withValue 3 = .ok (.iload_n 1, 1) := by decide +kernel
theorem dX5_withValue_4 : decode cX5_withValue 4 = .ok (.imul, 1) := by decide +kernel
theorem dX5_withValue_5 : decode cX5_withValue 5 = .ok (.iadd, 1) := by decide +kernel
theorem dX5_withValue_6 : decode cX5_withValue 6 = .ok (.istore_n 3, 1) := by decide +kernel
theorem dX5_withValue_7 : decode cX5_withValue 7 = .ok (.iload_n 0, 1) := by decide +kernel
theorem dX5_withValue_8 : decode cX5_withValue 8 = .ok (.bipush 15, 2) := by decide +kernel
theorem dX5_withValue_10 : decode cX5_withValue 10 = .ok (.iload_n 3, 1) := by decide +kernel
theorem dX5_withValue_11 : decode cX5_withValue 11 = .ok (.ishl, 1) := by decide +kernel
theorem dX5_withValue_12 : decode cX5_withValue 12 = .ok (.iconst (-1), 1) := by decide +kernel
theorem dX5_withValue_13 : decode cX5_withValue 13 = .ok (.ixor, 1) := by decide +kernel
theorem dX5_withValue_14 : decode cX5_withValue 14 = .ok (.iand, 1) := by decide +kernel
theorem dX5_withValue_15 : decode cX5_withValue 15 = .ok (.iload_n 2, 1) := by decide +kernel
theorem dX5_withValue_16 : decode cX5_withValue 16 = .ok (.iload_n 3, 1) := by decide +kernel
theorem dX5_withValue_17 : decode cX5_withValue 17 = .ok (.ishl, 1) := by decide +kernel
theorem dX5_withValue_18 : decode cX5_withValue 18 = .ok (.ior, 1) := by decide +kernel
theorem dX5_withValue_19 : decode cX5_withValue 19 = .ok (.ireturn, 1) := by decide +kernel
theorem dX6_init_0 : decode cX6_init 0 = .ok (.aload_n 0, 1) := by decide +kernel
theorem dX6_init_1 : decode cX6_init 1 = .ok (.invokespecial 1, 3) := by decide +kernel
theorem dX6_init_4 : decode cX6_init 4 = .ok (.aload_n 0, 1) := by decide +kernel
theorem dX6_init_5 : decode cX6_init 5 = .ok (.iconst 0, 1) := by decide +kernel
theorem dX6_init_6 : decode cX6_init 6 = .ok (.newarray .int, 2) := by decide +kernel
theorem dX6_init_8 : decode cX6_init 8 = .ok (.putfield 7, 3) := by decide +kernel
theorem dX6_init_11 : decode cX6_init 11 = .ok (.aload_n 0, 1) := by decide +kernel
theorem dX6_init_12 : decode cX6_init 12 = .ok (.iconst 0, 1) := by decide +kernel
theorem dX6_init_13 : decode cX6_init 13 = .ok (.newarray .int, 2) := by decide +kernel
theorem dX6_init_15 : decode cX6_init 15 = .ok (.putfield 13, 3) := by decide +kernel
theorem dX6_init_18 : decode cX6_init 18 = .ok (.aload_n 0, 1) := by decide +kernel
theorem dX6_init_19 : decode cX6_init 19 = .ok (.iconst 0, 1) := by decide +kernel
theorem dX6_init_20 : decode cX6_init 20 = .ok (.newarray .int, 2) := by decide +kernel
theorem dX6_init_22 : decode cX6_init 22 = .ok (.putfield 16, 3) := by decide +kernel
theorem dX6_init_25 : decode cX6_init 25 = .ok (.aload_n 0, 1) := by decide +kernel
theorem dX6_init_26 : decode cX6_init 26 = .ok (.iconst 5, 1) := by decide +kernel
theorem dX6_init_27 : decode cX6_init 27 = .ok (.iconst 0, 1) := by decide +kernel
theorem dX6_init_28 : decode cX6_init 28 = .ok (.multianewarray 19 2, 4) := by decide +kernel
theorem dX6_init_32 : decode cX6_init 32 = .ok (.putfield 21, 3) := by decide +kernel
theorem dX6_init_35 : decode cX6_init 35 = .ok (.aload_n 0, 1) := by decide +kernel
theorem dX6_init_36 : decode cX6_init 36 = .ok (.iconst 0, 1) := by decide +kernel
theorem dX6_init_37 : decode cX6_init 37 = .ok (.anewarray 24, 3) := by decide +kernel
theorem dX6_init_40 : decode cX6_init 40 = .ok (.putfield 25, 3) := by decide +kernel
theorem dX6_init_43 : decode cX6_init 43 = .ok (.aload_n 0, 1) := by decide +kernel
theorem dX6_init_44 : decode cX6_init 44 = .ok (.iconst 0, 1) := by decide +kernel
theorem dX6_init_45 : decode cX6_init 45 = .ok (.anewarray 29, 3) := by decide +kernel
theorem dX6_init_48 : decode cX6_init 48 = .ok (.putfield 30, 3) := by decide +kernel
theorem dX6_init_51 : decode cX6_init 51 = .ok (.aload_n 0, 1) := by decide +kernel
theorem dX6_init_52 : decode cX6_init 52 = .ok (.iconst 0, 1) := by decide +kernel
theorem dX6_init_53 : decode cX6_init 53 = .ok (.newarray .int, 2) := by decide +kernel
theorem dX6_init_55 : decode cX6_init 55 = .ok (.putfield 33, 3) := by decide +kernel
theorem dX6_init_58 : decode cX6_init 58 = .ok (.aload_n 0, 1) := by decide +kernel
theorem dX6_init_59 : decode cX6_init 59 = .ok (.iconst 0, 1) := by decide +kernel
theorem dX6_init_60 : decode cX6_init 60 = .ok (.newarray .int, 2) := by decide +kernel
theorem dX6_init_62 : decode cX6_init 62 = .ok (.putfield 36, 3) := by decide +kernel
theorem dX6_init_65 : decode cX6_init 65 = .ok (.return_, 1) := by decide +kernel
theorem dX6_more_0 : decode cX6_more 0 = .ok (.aload_n 0, 1) := by decide +kernel
theorem dX6_more_1 : decode cX6_more 1 = .ok (.arraylength, 1) := by decide +kernel
theorem dX6_more_2 : decode cX6_more 2 = .ok (.iconst 1, 1) := by decide +kernel
theorem dX6_more_3 : decode cX6_more 3 = .ok (.iadd, 1) := by decide +kernel
theorem dX6_more_4 : decode cX6_more 4 = .ok (.newarray .int, 2) := by decide +kernel
theorem dX6_more_6 : decode cX6_more 6 = .ok (.astore_n 2, 1) := by decide +kernel
theorem dX6_more_7 : decode cX6_more 7 = .ok (.iconst 0, 1) := by decide +kernel
theorem dX6_more_8 : decode cX6_more 8 = .ok (.istore_n 3, 1) := by decide +kernel
theorem dX6_more_9 : decode cX6_more 9 = .ok (.iload_n 3, 1) := by decide +kernel
theorem dX6_more_10 : decode cX6_more 10 = .ok (.aload_n 0, 1) := by decide +kernel
theorem dX6_more_11 : decode cX6_more 11 = .ok (.arraylength, 1) := by decide +kernel
theorem dX6_more_12 : decode cX6_more 12 = .ok (.if_icmp .ge 15, 3) := by decide +kernel
theorem dX6_more_15 : decode cX6_more 15 = .ok (.aload_n 2, 1) := by decide +kernel
theorem dX6_more_16 : decode cX6_more 16 = .ok (.iload_n 3, 1) := by decide +kernel
theorem dX6_more_17 : decode cX6_more 17 = .ok (.aload_n 0, 1) := by decide +kernel
theorem dX6_more_18 : decode cX6_more 18 = .ok (.iload_n 3, 1) := by decide +kernel
theorem dX6_more_19 : decode cX6_more 19 = .ok (.iaload, 1) := by decide +kernel
theorem dX6_more_20 : decode cX6_more 20 = .ok (.iastore, 1) := by decide +kernel
theorem dX6_more_21 : decode cX6_more 21 = .ok (.iinc 3 1, 3) := by decide +kernel
theorem dX6_more_24 : decode cX6_more 24 = .ok (.goto (-15), 3) := by decide +kernel
theorem dX6_more_27 : decode cX6_more 27 = .ok (.aload_n 2, 1) := by decide +kernel
theorem dX6_more_28 : decode cX6_more 28 = .ok (.aload_n 0, 1) := by decide +kernel
theorem dX6_more_29 : decode cX6_more 29 = .ok (.arraylength, 1) := by decide +kernel
theorem dX6_more_30 : decode cX6_more 30 = .ok (.iload_n 1, 1) := by decide +kernel
theorem dX6_more_31 : decode cX6_more 31 = .ok (.iastore, 1) := by decide +kernel
theorem dX6_more_32 : decode cX6_more 32 = .ok (.aload_n 2, 1) := by decide +kernel
theorem dX6_more_33 : decode cX6_more 33 = .ok (.areturn, 1) := by decide +kernel
theorem dX6_more__0 : decode cX6_more_ 0 = .ok (.aload_n 0, 1) := by decide +kernel
theorem dX6_more__1 : decode cX6_more_ 1 = .ok (.arraylength, 1) := by decide +kernel
theorem dX6_more__2 : decode cX6_more_ 2 = .ok (.iconst 1, 1) := by decide +kernel
theorem dX6_more__3 : decode cX6_more_ 3 = .ok (.iadd, 1) := by decide +kernel
theorem dX6_more__4 : decode cX6_more_ 4 = .ok (.anewarray 24, 3) := by decide +kernel
theorem dX6_more__7 : decode cX6_more_ 7 = .ok (.astore_n 2, 1) := by decide +kernel
theorem dX6_more__8 : decode cX6_more_ 8 = .ok (.iconst 0, 1) := by decide +kernel
theorem dX6_more__9 : decode cX6_more_ 9 = .ok (.istore_n 3, 1) := by decide +kernel
theorem dX6_more__10 : decode cX6_more_ 10 = .ok (.iload_n 3, 1) := by decide +kernel
theorem dX6_more__11 : decode cX6_more_ 11 = .ok (.aload_n 0, 1) := by decide +kernel
theorem dX6_more__12 : decode cX6_more_ 12 = .ok (.arraylength, 1) := by decide +kernel
theorem dX6_more__13 : decode cX6_more_ 13 = .ok (.if_icmp .ge 15, 3) := by decide +kernel
theorem dX6_more__16 : decode cX6_more_ 16 = .ok (.aload_n 2, 1) := by decide +kernel
theorem dX6_more__17 : decode cX6_more_ 17 = .ok (.iload_n 3, 1) := by decide +kernel
theorem dX6_more__18 : decode cX6_more_ 18 = .ok (.aload_n 0, 1) := by decide +kernel
theorem dX6_more__19 : decode cX6_more_ 19 = .ok (.iload_n 3, 1) := by decide +kernel
theorem dX6_more__20 : decode cX6_more_ 20 = .ok (.aaload, 1) := by decide +kernel
theorem dX6_more__21 : decode cX6_more_ 21 = .ok (.aastore, 1) := by decide +kernel
theorem dX6_more__22 : decode cX6_more_ 22 = .ok (.iinc 3 1, 3) := by decide +kernel
theorem dX6_more__25 : decode cX6_more_ 25 = .ok (.goto (-15), 3) := by decide +kernel
theorem dX6_more__28 : decode cX6_more_ 28 = .ok (.aload_n 2, 1) := by decide +kernel
theorem dX6_more__29 : decode cX6_more_ 29 = .ok (.aload_n 0, 1) := by decide +kernel
theorem dX6_more__30 : decode cX6_more_ 30 = .ok (.arraylength, 1) := by decide +kernel
theorem dX6_more__31 : decode cX6_more_ 31 = .ok (.aload_n 1, 1) := by decide +kernel
theorem dX6_more__32 : decode cX6_more_ 32 = .ok (.aastore, 1) := by decide +kernel
theorem dX6_more__33 : decode cX6_more_ 33 = .ok (.aload_n 2, 1) := by decide +kernel
theorem dX6_more__34 : decode cX6_more_ 34 = .ok (.areturn, 1) := by decide +kernel
theorem dX6_done_0 : decode cX6_done 0 = .ok (.aload_n 1, 1) := by decide +kernel
theorem dX6_done_1 : decode cX6_done 1 = .ok (.invokevirtual 39, 3) := by decide +kernel
theorem dX6_done_4 : decode cX6_done 4 = .ok (.checkcast 24, 3) := by decide +kernel
theorem dX6_done_7 : decode cX6_done 7 = .ok (.astore 4, 2) := by decide +kernel
theorem dX6_done_9 : decode cX6_done 9 = .ok (.aload 4, 2) := by decide +kernel
theorem dX6_done_11 : decode cX6_done 11 = .ok (.iload_n 2, 1) := by decide +kernel
theorem dX6_done_12 : decode cX6_done 12 = .ok (.aload_n 3, 1) := by decide +kernel
theorem dX6_done_13 : decode cX6_done 13 = .ok (.iconst 1, 1) := by decide +kernel
theorem dX6_done_14 : decode cX6_done 14 = .ok (.iaload, 1) := by decide +kernel
theorem dX6_done_15 : decode cX6_done 15 = .ok (.iastore, 1) := by decide +kernel
theorem dX6_done_16 : decode cX6_done 16 = .ok (.aload_n 3, 1) := by decide +kernel
theorem dX6_done_17 : decode cX6_done 17 = .ok (.bipush 6, 2) := by decide +kernel
theorem dX6_done_19 : decode cX6_done 19 = .ok (.iaload, 1) := by decide +kernel
theorem dX6_done_20 : decode cX6_done 20 = .ok (.ifCond .ne 6, 3) := by decide +kernel
theorem dX6_done_23 : decode cX6_done 23 = .ok (.aload 4, 2) := by decide +kernel
theorem dX6_done_25 : decode cX6_done 25 = .ok (.areturn, 1) := by decide +kernel
theorem dX6_done_26 : decode cX6_done 26 = .ok (.aload_n 0, 1) := by decide +kernel
theorem dX6_done_27 : decode cX6_done 27 = .ok (.getfield 7, 3) := by decide +kernel
theorem dX6_done_30 : decode cX6_done 30 = .ok (.arraylength, 1) := by decide +kernel
theorem dX6_done_31 : decode cX6_done 31 = .ok (.aload_n 3, 1) := by decide +kernel
theorem dX6_done_32 : decode cX6_done 32 = .ok (.bipush 7, 2) := by decide +kernel
theorem dX6_done_34 : decode cX6_done 34 = .ok (.iaload, 1) := by decide +kernel
theorem dX6_done_35 : decode cX6_done 35 = .ok (.iadd, 1) := by decide +kernel
theorem dX6_done_36 : decode cX6_done 36 = .ok (.istore 5, 2) := by decide +kernel
theorem dX6_done_38 : decode cX6_done 38 = .ok (.aload 4, 2) := by decide +kernel
theorem dX6_done_40 : decode cX6_done 40 = .ok (.iload 5, 2) := by decide +kernel
theorem dX6_done_42 : decode cX6_done 42 = .ok (.aload_n 3, 1) := by decide +kernel
theorem dX6_done_43 : decode cX6_done 43 = .ok (.bipush 6, 2) := by decide +kernel
theorem dX6_done_45 : decode cX6_done 45 = .ok (.iaload, 1) := by decide +kernel
theorem dX6_done_46 : decode cX6_done 46 = .ok (.iconst 1, 1) := by decide +kernel
theorem dX6_done_47 : decode cX6_done 47 = .ok (.if_icmp .ne 10, 3) := by decide +kernel
theorem dX6_done_50 : decode cX6_done 50 = .ok (.aload_n 3, 1) := by decide +kernel
theorem dX6_done_51 : decode cX6_done 51 = .ok (.bipush 8, 2) := by decide +kernel
theorem dX6_done_53 : decode cX6_done 53 = .ok (.iaload, 1) := by decide +kernel
theorem dX6_done_54 : decode cX6_done 54 = .ok (.goto 13, 3) := by decide +kernel
theorem dX6_done_57 : decode cX6_done 57 = .ok (.aload 4, 2) := by decide +kernel
theorem dX6_done_59 : decode cX6_done 59 = .ok (.iload 5, 2) := by decide +kernel
theorem dX6_done_61 : decode cX6_done 61 = .ok (.iaload, 1) := by decide +kernel
theorem dX6_done_62 : decode cX6_done 62 = .ok (.aload_n 3, 1) := by decide +kernel
theorem dX6_done_63 : decode cX6_done 63 = .ok (.bipush 8, 2) := by decide +kernel
theorem dX6_done_65 : decode cX6_done 65 = .ok (.iaload, 1) := by decide +kernel
theorem dX6_done_66 : decode cX6_done 66 = .ok (.iadd, 1) := by decide +kernel
theorem dX6_done_67 : decode cX6_done 67 = .ok (.iastore, 1) := by decide +kernel
theorem dX6_done_68 : decode cX6_done 68 = .ok (.aload 4, 2) := by decide +kernel
theorem dX6_done_70 : decode cX6_done 70 = .ok (.iload 5, 2) := by decide +kernel
theorem dX6_done_72 : decode cX6_done 72 = .ok (.iaload, 1) := by decide +kernel
theorem dX6_done_73 : decode cX6_done 73 = .ok (.ifCond .lt 20, 3) := by decide +kernel
theorem dX6_done_76 : decode cX6_done 76 = .ok (.aload 4, 2) := by decide +kernel
theorem dX6_done_78 : decode cX6_done 78 = .ok (.iload 5, 2) := by decide +kernel
theorem dX6_done_80 : decode cX6_done 80 = .ok (.iaload, 1) := by decide +kernel
theorem dX6_done_81 : decode cX6_done 81 = .ok (.aload_n 0, 1) := by decide +kernel
theorem dX6_done_82 : decode cX6_done 82 = .ok (.getfield 13, 3) := by decide +kernel
theorem dX6_done_85 : decode cX6_done 85 = .ok (.aload_n 3, 1) := by decide +kernel
theorem dX6_done_86 : decode cX6_done 86 = .ok (.bipush 7, 2) := by decide +kernel
theorem dX6_done_88 : decode cX6_done 88 = .ok (.iaload, 1) := by decide +kernel
theorem dX6_done_89 : decode cX6_done 89 = .ok (.iaload, 1) := by decide +kernel
theorem dX6_done_90 : decode cX6_done 90 = .ok (.if_icmp .le 7, 3) := by decide +kernel
theorem dX6_done_93 : decode cX6_done 93 = .ok (.aconst_null, 1) := by decide +kernel
theorem dX6_done_94 : decode cX6_done 94 = .ok (.goto 5, 3) := by decide +kernel
theorem dX6_done_97 : decode cX6_done 97 = .ok (.aload 4, 2) := by decide +kernel
theorem dX6_done_99 : decode cX6_done 99 = .ok (.areturn, 1) := by decide +kernel
theorem dX6_isOpen_0 : decode cX6_isOpen 0 = .ok (.aload_n 1, 1) := by decide +kernel
theorem dX6_isOpen_1 : decode cX6_isOpen 1 = .ok (.iload_n 2, 1) := by decide +kernel
theorem dX6_isOpen_2 : decode cX6_isOpen 2 = .ok (.iaload, 1) := by decide +kernel
theorem dX6_isOpen_3 : decode cX6_isOpen 3 = .ok (.aload_n 3, 1) := by decide +kernel
theorem dX6_isOpen_4 : decode cX6_isOpen 4 = .ok (.iconst 0, 1) := by decide +kernel
theorem dX6_isOpen_5 : decode cX6_isOpen 5 = .ok (.iaload, 1) := by decide +kernel
theorem dX6_isOpen_6 : decode cX6_isOpen 6 = .ok (.if_icmp .ne 13, 3) := by decide +kernel
theorem dX6_isOpen_9 : decode cX6_isOpen 9 = .ok (.aload_n 0, 1) := by decide +kernel
theorem dX6_isOpen_10 : decode cX6_isOpen 10 = .ok (.aload_n 1, 1) := by decide +kernel
theorem dX6_isOpen_11 : decode cX6_isOpen 11 = .ok (.iload_n 2, 1) := by decide +kernel
theorem dX6_isOpen_12 : decode cX6_isOpen 12 = .ok (.aload_n 3, 1) := by decide +kernel
theorem dX6_isOpen_13 : decode cX6_isOpen 13 = .ok (.invokevirtual 43, 3) := by decide +kernel
theorem dX6_isOpen_16 : decode cX6_isOpen 16 = .ok (.ifnonnull 5, 3) := by decide +kernel
theorem dX6_isOpen_19 : decode cX6_isOpen 19 = .ok (.iconst 0, 1) := by decide +kernel
theorem dX6_isOpen_20 : decode cX6_isOpen 20 = .ok (.ireturn, 1) := by decide +kernel
theorem dX6_isOpen_21 : decode cX6_isOpen 21 = .ok (.aload_n 3, 1) := by decide +kernel
theorem dX6_isOpen_22 : decode cX6_isOpen 22 = .ok (.iconst 3, 1) := by decide +kernel
theorem dX6_isOpen_23 : decode cX6_isOpen 23 = .ok (.iaload, 1) := by decide +kernel
theorem dX6_isOpen_24 : decode cX6_isOpen 24 = .ok (.ifCond .ne 7, 3) := by decide +kernel
theorem dX6_isOpen_27 : decode cX6_isOpen 27 = .ok (.iconst 0, 1) := by decide +kernel
theorem dX6_isOpen_28 : decode cX6_isOpen 28 = .ok (.goto 14, 3) := by decide +kernel
theorem dX6_isOpen_31 : decode cX6_isOpen 31 = .ok (.aload_n 1, 1) := by decide +kernel
theorem dX6_isOpen_32 : decode cX6_isOpen 32 = .ok (.aload_n 0, 1) := by decide +kernel
theorem dX6_isOpen_33 : decode cX6_isOpen 33 = .ok (.getfield 7, 3) := by decide +kernel
theorem dX6_isOpen_36 : decode cX6_isOpen 36 = .ok (.arraylength, 1) := by decide +kernel
theorem dX6_isOpen_37 : decode cX6_isOpen 37 = .ok (.aload_n 3, 1) := by decide +kernel
theorem dX6_isOpen_38 : decode cX6_isOpen 38 = .ok (.iconst 4, 1) := by decide +kernel
theorem dX6_isOpen_39 : decode cX6_isOpen 39 = .ok (.iaload, 1) := by decide +kernel
theorem dX6_isOpen_40 : decode cX6_isOpen 40 = .ok (.iadd, 1) := by decide +kernel
theorem dX6_isOpen_41 : decode cX6_isOpen 41 = .ok (.iaload, 1) := by decide +kernel
theorem dX6_isOpen_42 : decode cX6_isOpen 42 = .ok (.istore 4, 2) := by decide +kernel
theorem dX6_isOpen_44 : decode cX6_isOpen 44 = .ok (.aload_n 3, 1) := by decide +kernel
theorem dX6_isOpen_45 : decode cX6_isOpen 45 = .ok (.iconst 3, 1) := by decide +kernel
theorem dX6_isOpen_46 : decode cX6_isOpen 46 = .ok (.iaload, 1) := by decide +kernel
theorem dX6_isOpen_47 : decode cX6_isOpen 47 = .ok (.ifCond .eq 63, 3) := by decide +kernel
theorem dX6_isOpen_50 : decode cX6_isOpen 50 = .ok (.aload_n 3, 1) := by decide +kernel
theorem dX6_isOpen_51 : decode cX6_isOpen 51 = .ok (.iconst 3, 1) := by decide +kernel
theorem dX6_isOpen_52 : decode cX6_isOpen 52 = .ok (.iaload, 1) := by decide +kernel
theorem dX6_isOpen_53 : decode cX6_isOpen 53 = .ok (.iconst 1, 1) := by decide +kernel
theorem dX6_isOpen_54 : decode cX6_isOpen 54 = .ok (.if_icmp .ne 11, 3) := by decide +kernel
theorem dX6_isOpen_57 : decode cX6_isOpen 57 = .ok (.iload 4, 2) := by decide +kernel
theorem dX6_isOpen_59 : decode cX6_isOpen 59 = .ok (.aload_n 3, 1) := by decide +kernel
theorem dX6_isOpen_60 : decode cX6_isOpen 60 = .ok (.iconst 5, 1) := by decide +kernel
theorem dX6_isOpen_61 : decode cX6_isOpen 61 = .ok (.iaload, 1) := by decide +kernel
theorem dX6_isOpen_62 : decode cX6_isOpen 62 = .ok (.if_icmp .eq 48, 3) := by decide +kernel
theorem dX6_isOpen_65 : decode cX6_isOpen 65 = .ok (.aload_n 3, 1) := by decide +kernel
theorem dX6_isOpen_66 : decode cX6_isOpen 66 = .ok (.iconst 3, 1) := by decide +kernel
theorem dX6_isOpen_67 : decode cX6_isOpen 67 = .ok (.iaload, 1) := by decide +kernel
theorem dX6_isOpen_68 : decode cX6_isOpen 68 = .ok (.iconst 2, 1) := by decide +kernel
theorem dX6_isOpen_69 : decode cX6_isOpen 69 = .ok (.if_icmp .ne 11, 3) := by decide +kernel
theorem dX6_isOpen_72 : decode cX6_isOpen 72 = .ok (.iload 4, 2) := by decide +kernel
theorem dX6_isOpen_74 : decode cX6_isOpen 74 = .ok (.aload_n 3, 1) := by decide +kernel
theorem dX6_isOpen_75 : decode cX6_isOpen 75 = .ok (.iconst 5, 1) := by decide +kernel
theorem dX6_isOpen_76 : decode cX6_isOpen 76 = .ok (.iaload, 1) := by decide +kernel
theorem dX6_isOpen_77 : decode cX6_isOpen 77 = .ok (.if_icmp .ne 33, 3) := by decide +kernel
theorem dX6_isOpen_80 : decode cX6_isOpen 80 = .ok (.aload_n 3, 1) := by decide +kernel
theorem dX6_isOpen_81 : decode cX6_isOpen 81 = .ok (.iconst 3, 1) := by decide +kernel
theorem dX6_isOpen_82 : decode cX6_isOpen 82 = .ok (.iaload, 1) := by decide +kernel
theorem dX6_isOpen_83 : decode cX6_isOpen 83 = .ok (.iconst 3, 1) := by decide +kernel
theorem dX6_isOpen_84 : decode cX6_isOpen 84 = .ok (.if_icmp .ne 11, 3) := by decide +kernel
theorem dX6_isOpen_87 : decode cX6_isOpen 87 = .ok (.iload 4, 2) := by decide +kernel
theorem dX6_isOpen_89 : decode cX6_isOpen 89 = .ok (.aload_n 3, 1) := by decide +kernel
theorem dX6_isOpen_90 : decode cX6_isOpen 90 = .ok (.iconst 5, 1) := by decide +kernel
theorem dX6_isOpen_91 : decode cX6_isOpen 91 = .ok (.iaload, 1) := by decide +kernel
theorem dX6_isOpen_92 : decode cX6_isOpen 92 = .ok (.if_icmp .lt 18, 3) := by decide +kernel
theorem dX6_isOpen_95 : decode cX6_isOpen 95 = .ok (.aload_n 3, 1) := by decide +kernel
theorem dX6_isOpen_96 : decode cX6_isOpen 96 = .ok (.iconst 3, 1) := by decide +kernel
theorem dX6_isOpen_97 : decode cX6_isOpen 97 = .ok (.iaload, 1) := by decide +kernel
theorem dX6_isOpen_98 : decode cX6_isOpen 98 = .ok (.iconst 4, 1) := by decide +kernel
theorem dX6_isOpen_99 : decode cX6_isOpen 99 = .ok (.if_icmp .ne 15, 3) := by decide +kernel
theorem dX6_isOpen_102 : decode cX6_isOpen 102 = .ok (.iload 4, 2) := by decide +kernel
theorem dX6_isOpen_104 : decode cX6_isOpen 104 = .ok (.aload_n 3, 1) := by decide +kernel
theorem dX6_isOpen_105 : decode cX6_isOpen 105 = .ok (.iconst 5, 1) := by decide +kernel
theorem dX6_isOpen_106 : decode cX6_isOpen 106 = .ok (.iaload, 1) := by decide +kernel
theorem dX6_isOpen_107 : decode cX6_isOpen 107 = .ok (.if_icmp .le 7, 3) := by decide +kernel
theorem dX6_isOpen_110 : decode cX6_isOpen 110 = .ok (.iconst 1, 1) := by decide +kernel
theorem dX6_isOpen_111 : decode cX6_isOpen 111 = .ok (.goto 4, 3) := by decide +kernel
theorem dX6_isOpen_114 : decode cX6_isOpen 114 = .ok (.iconst 0, 1) := by decide +kernel
theorem dX6_isOpen_115 : decode cX6_isOpen 115 = .ok (.ireturn, 1) := by decide +kernel
theorem dX6_find_0 : decode cX6_find 0 = .ok (.iconst 0, 1) := by decide +kernel
theorem dX6_find_1 : decode cX6_find 1 = .ok (.istore_n 2, 1) := by decide +kernel
theorem dX6_find_2 : decode cX6_find 2 = .ok (.iload_n 2, 1) := by decide +kernel
theorem dX6_find_3 : decode cX6_find 3 = .ok (.aload_n 0, 1) := by decide +kernel
theorem dX6_find_4 : decode cX6_find 4 = .ok (.getfield 25, 3) := by decide +kernel
theorem dX6_find_7 : decode cX6_find 7 = .ok (.arraylength, 1) := by decide +kernel
theorem dX6_find_8 : decode cX6_find 8 = .ok (.if_icmp .ge 59, 3) := by decide +kernel
theorem dX6_find_11 : decode cX6_find 11 = .ok (.iconst 1, 1) := by decide +kernel
theorem dX6_find_12 : decode cX6_find 12 = .ok (.istore_n 3, 1) := by decide +kernel
theorem dX6_find_13 : decode cX6_find 13 = .ok (.iconst 0, 1) := by decide +kernel
theorem dX6_find_14 : decode cX6_find 14 = .ok (.istore 4, 2) := by decide +kernel
theorem dX6_find_16 : decode cX6_find 16 = .ok (.iload 4, 2) := by decide +kernel
theorem dX6_find_18 : decode cX6_find 18 = .ok (.aload_n 1, 1) := by decide +kernel
theorem dX6_find_19 : decode cX6_find 19 = .ok (.arraylength, 1) := by decide +kernel
theorem dX6_find_20 : decode cX6_find 20 = .ok (.if_icmp .ge 35, 3) := by decide +kernel
theorem dX6_find_23 : decode cX6_find 23 = .ok (.iload_n 3, 1) := by decide +kernel
theorem dX6_find_24 : decode cX6_find 24 = .ok (.ifCond .eq 23, 3) := by decide +kernel
theorem dX6_find_27 : decode cX6_find 27 = .ok (.aload_n 0, 1) := by decide +kernel
theorem dX6_find_28 : decode cX6_find 28 = .ok (.getfield 25, 3) := by decide +kernel
theorem dX6_find_31 : decode cX6_find 31 = .ok (.iload_n 2, 1) := by decide +kernel
theorem dX6_find_32 : decode cX6_find 32 = .ok (.aaload, 1) := by decide +kernel
theorem dX6_find_33 : decode cX6_find 33 = .ok (.iload 4, 2) := by decide +kernel
theorem dX6_find_35 : decode cX6_find 35 = .ok (.iaload, 1) := by decide +kernel
theorem dX6_find_36 : decode cX6_find 36 = .ok (.aload_n 1, 1) := by decide +kernel
theorem dX6_find_37 : decode cX6_find 37 = .ok (.iload 4, 2) := by decide +kernel
theorem dX6_find_39 : decode cX6_find 39 = .ok (.iaload, 1) := by decide +kernel
theorem dX6_find_40 : decode cX6_find 40 = .ok (.if_icmp .ne 7, 3) := by decide +kernel
theorem dX6_find_43 : decode cX6_find 43 = .ok (.iconst 1, 1) := by decide +kernel
theorem dX6_find_44 : decode cX6_find 44 = .ok (.goto 4, 3) := by decide +kernel
theorem dX6_find_47 : decode cX6_find 47 = .ok (.iconst 0, 1) := by decide +kernel
theorem dX6_find_48 : decode cX6_find 48 = .ok (.istore_n 3, 1) := by decide +kernel
theorem dX6_find_49 : decode cX6_find 49 = .ok (.iinc 4 1, 3) := by decide +kernel
theorem dX6_find_52 : decode cX6_find 52 = .ok (.goto (-36), 3) := by decide +kernel
theorem dX6_find_55 : decode cX6_find 55 = .ok (.iload_n 3, 1) := by decide +kernel
theorem dX6_find_56 : decode cX6_find 56 = .ok (.ifCond .eq 5, 3) := by decide +kernel
theorem dX6_find_59 : decode cX6_find 59 = .ok (.iload_n 2, 1) := by decide +kernel
theorem dX6_find_60 : decode cX6_find 60 = .ok (.ireturn, 1) := by decide +kernel
theorem dX6_find_61 : decode cX6_find 61 = .ok (.iinc 2 1, 3) := by decide +kernel
theorem dX6_find_64 : decode cX6_find 64 = .ok (.goto (-62), 3) := by decide +kernel
theorem dX6_find_67 : decode cX6_find 67 = .ok (.iconst (-1), 1) := by decide +kernel
theorem dX6_find_68 : decode cX6_find 68 = .ok (.ireturn, 1) := by decide +kernel
theorem dX6_number_0 : decode cX6_number 0 = .ok (.aload_n 0, 1) := by decide +kernel
theorem dX6_number_1 : decode cX6_number 1 = .ok (.aload_n 1, 1) := by decide +kernel
theorem dX6_number_2 : decode cX6_number 2 = .ok (.invokevirtual 47, 3) := by decide +kernel
theorem dX6_number_5 : decode cX6_number 5 = .ok (.istore 4, 2) := by decide +kernel
theorem dX6_number_7 : decode cX6_number 7 = .ok (.iload 4, 2) := by decide +kernel
theorem dX6_number_9 : decode cX6_number 9 = .ok (.ifCond .lt 6, 3) := by decide +kernel
theorem dX6_number_12 : decode cX6_number 12 = .ok (.iload 4, 2) := by decide +kernel
theorem dX6_number_14 : decode cX6_number 14 = .ok (.ireturn, 1) := by decide +kernel
theorem dX6_number_15 : decode cX6_number 15 = .ok (.aload_n 0, 1) := by decide +kernel
theorem dX6_number_16 : decode cX6_number 16 = .ok (.aload_n 0, 1) := by decide +kernel
theorem dX6_number_17 : decode cX6_number 17 = .ok (.getfield 25, 3) := by decide +kernel
theorem dX6_number_20 : decode cX6_number 20 = .ok (.aload_n 1, 1) := by decide +kernel
theorem dX6_number_21 : decode cX6_number 21 = .ok (.invokestatic 51, 3) := by decide +kernel
theorem dX6_number_24 : decode cX6_number 24 = .ok (.putfield 25, 3) := by decide +kernel
theorem dX6_number_27 : decode cX6_number 27 = .ok (.aload_n 0, 1) := by decide +kernel
theorem dX6_number_28 : decode cX6_number 28 = .ok (.aload_n 0, 1) := by decide +kernel
theorem dX6_number_29 : decode cX6_number 29 = .ok (.getfield 33, 3) := by decide +kernel
theorem dX6_number_32 : decode cX6_number 32 = .ok (.iload_n 2, 1) := by decide +kernel
theorem dX6_number_33 : decode cX6_number 33 = .ok (.invokestatic 55, 3) := by decide +kernel
theorem dX6_number_36 : decode cX6_number 36 = .ok (.putfield 33, 3) := by decide +kernel
theorem dX6_number_39 : decode cX6_number 39 = .ok (.aload_n 0, 1) := by decide +kernel
theorem dX6_number_40 : decode cX6_number 40 = .ok (.aload_n 0, 1) := by decide +kernel
theorem dX6_number_41 : decode cX6_number 41 = .ok (.getfield 36, 3) := by decide +kernel
theorem dX6_number_44 : decode cX6_number 44 = .ok (.iload_n 3, 1) := by decide +kernel
theorem dX6_number_45 : decode cX6_number 45 = .ok (.invokestatic 55, 3) := by decide +kernel
theorem dX6_number_48 : decode cX6_number 48 = .ok (.putfield 36, 3) := by decide +kernel
theorem dX6_number_51 : decode cX6_number 51 = .ok (.aload_n 0, 1) := by decide +kernel
theorem dX6_number_52 : decode cX6_number 52 = .ok (.getfield 25, 3) := by decide +kernel
theorem dX6_number_55 : decode cX6_number 55 = .ok (.arraylength, 1) := by decide +kernel
theorem dX6_number_56 : decode cX6_number 56 = .ok (.iconst 1, 1) := by decide +kernel
theorem dX6_number_57 : decode cX6_number 57 = .ok (.isub, 1) := by decide +kernel
theorem dX6_number_58 : decode cX6_number 58 = .ok (.ireturn, 1) := by decide +kernel
theorem dX6_explore_0 : decode cX6_explore 0 = .ok (.aload_n 0, 1) := by decide +kernel
theorem dX6_explore_1 : decode cX6_explore 1 = .ok (.getfield 7, 3) := by decide +kernel
theorem dX6_explore_4 : decode cX6_explore 4 = .ok (.arraylength, 1) := by decide +kernel
theorem dX6_explore_5 : decode cX6_explore 5 = .ok (.istore_n 2, 1) := by decide +kernel
theorem dX6_explore_6 : decode cX6_explore 6 = .ok (.iload_n 2, 1) := by decide +kernel
theorem dX6_explore_7 : decode cX6_explore 7 = .ok (.aload_n 0, 1) := by decide +kernel
theorem dX6_explore_8 : decode cX6_explore 8 = .ok (.getfield 13, 3) := by decide +kernel
theorem dX6_explore_11 : decode cX6_explore 11 = .ok (.arraylength, 1) := by decide +kernel
theorem dX6_explore_12 : decode cX6_explore 12 = .ok (.iadd, 1) := by decide +kernel
theorem dX6_explore_13 : decode cX6_explore 13 = .ok (.newarray .int, 2) := by decide +kernel
theorem dX6_explore_15 : decode cX6_explore 15 = .ok (.astore_n 3, 1) := by decide +kernel
theorem dX6_explore_16 : decode cX6_explore 16 = .ok (.iconst 0, 1) := by decide +kernel
theorem dX6_explore_17 : decode cX6_explore 17 = .ok (.istore 4, 2) := by decide +kernel
theorem dX6_explore_19 : decode cX6_explore 19 = .ok (.iload 4, 2) := by decide +kernel
theorem dX6_explore_21 : decode cX6_explore 21 = .ok (.aload_n 0, 1) := by decide +kernel
theorem dX6_explore_22 : decode cX6_explore 22 = .ok (.getfield 13, 3) := by decide +kernel
theorem dX6_explore_25 : decode cX6_explore 25 = .ok (.arraylength, 1) := by decide +kernel
theorem dX6_explore_26 : decode cX6_explore 26 = .ok (.if_icmp .ge 22, 3) := by decide +kernel
theorem dX6_explore_29 : decode cX6_explore 29 = .ok (.aload_n 3, 1) := by decide +kernel
theorem dX6_explore_30 : decode cX6_explore 30 = .ok (.iload_n 2, 1) := by decide +kernel
theorem dX6_explore_31 : decode cX6_explore 31 = .ok (.iload 4, 2) := by decide +kernel
theorem dX6_explore_33 : decode cX6_explore 33 = .ok (.iadd, 1) := by decide +kernel
theorem dX6_explore_34 : decode cX6_explore 34 = .ok (.aload_n 0, 1) := by decide +kernel
theorem dX6_explore_35 : decode cX6_explore 35 = .ok (.getfield 16, 3) := by decide +kernel
theorem dX6_explore_38 : decode cX6_explore 38 = .ok (.iload 4, 2) := by decide +kernel
theorem dX6_explore_40 : decode cX6_explore 40 = .ok (.iaload, 1) := by decide +kernel
theorem dX6_explore_41 : decode cX6_explore 41 = .ok (.iastore, 1) := by decide +kernel
theorem dX6_explore_42 : decode cX6_explore 42 = .ok (.iinc 4 1, 3) := by decide +kernel
theorem dX6_explore_45 : decode cX6_explore 45 = .ok (.goto (-26), 3) := by decide +kernel
theorem dX6_explore_48 : decode cX6_explore 48 = .ok (.aload_n 0, 1) := by decide +kernel
theorem dX6_explore_49 : decode cX6_explore 49 = .ok (.aload_n 3, 1) := by decide +kernel
theorem dX6_explore_50 : decode cX6_explore 50 = .ok (.iconst (-1), 1) := by decide +kernel
theorem dX6_explore_51 : decode cX6_explore 51 = .ok (.iconst (-1), 1) := by decide +kernel
theorem dX6_explore_52 : decode cX6_explore 52 = .ok (.invokevirtual 58, 3) := by decide +kernel
theorem dX6_explore_55 : decode cX6_explore 55 = .ok (.pop, 1) := by decide +kernel
theorem dX6_explore_56 : decode cX6_explore 56 = .ok (.iconst 0, 1) := by decide +kernel
theorem dX6_explore_57 : decode cX6_explore 57 = .ok (.istore 4, 2) := by decide +kernel
theorem dX6_explore_59 : decode cX6_explore 59 = .ok (.iload 4, 2) := by decide +kernel
theorem dX6_explore_61 : decode cX6_explore 61 = .ok (.aload_n 0, 1) := by decide +kernel
theorem dX6_explore_62 : decode cX6_explore 62 = .ok (.getfield 25, 3) := by decide +kernel
theorem dX6_explore_65 : decode cX6_explore 65 = .ok (.arraylength, 1) := by decide +kernel
theorem dX6_explore_66 : decode cX6_explore 66 = .ok (.if_icmp .ge 377, 3) := by decide +kernel
theorem dX6_explore_69 : decode cX6_explore 69 = .ok (.iconst 0, 1) := by decide +kernel
theorem dX6_explore_70 : decode cX6_explore 70 = .ok (.anewarray 24, 3) := by decide +kernel
theorem dX6_explore_73 : decode cX6_explore 73 = .ok (.astore 5, 2) := by decide +kernel
theorem dX6_explore_75 : decode cX6_explore 75 = .ok (.iconst 0, 1) := by decide +kernel
theorem dX6_explore_76 : decode cX6_explore 76 = .ok (.istore 6, 2) := by decide +kernel
theorem dX6_explore_78 : decode cX6_explore 78 = .ok (.iload 6, 2) := by decide +kernel
theorem dX6_explore_80 : decode cX6_explore 80 = .ok (.iload_n 2, 1) := by decide +kernel
theorem dX6_explore_81 : decode cX6_explore 81 = .ok (.if_icmp .ge 297, 3) := by decide +kernel
theorem dX6_explore_84 : decode cX6_explore 84 = .ok (.iconst 0, 1) := by decide +kernel
theorem dX6_explore_85 : decode cX6_explore 85 = .ok (.istore 7, 2) := by decide +kernel
theorem dX6_explore_87 : decode cX6_explore 87 = .ok (.iload 7, 2) := by decide +kernel
theorem dX6_explore_89 : decode cX6_explore 89 = .ok (.aload_n 0, 1) := by decide +kernel
theorem dX6_explore_90 : decode cX6_explore 90 = .ok (.getfield 21, 3) := by decide +kernel
theorem dX6_explore_93 : decode cX6_explore 93 = .ok (.iload 6, 2) := by decide +kernel
theorem dX6_explore_95 : decode cX6_explore 95 = .ok (.aaload, 1) := by decide +kernel
theorem dX6_explore_96 : decode cX6_explore 96 = .ok (.arraylength, 1) := by decide +kernel
theorem dX6_explore_97 : decode cX6_explore 97 = .ok (.if_icmp .ge 275, 3) := by decide +kernel
theorem dX6_explore_100 : decode cX6_explore 100 = .ok (.aload_n 0, 1) := by decide +kernel
theorem dX6_explore_101 : decode cX6_explore 101 = .ok (.getfield 21, 3) := by decide +kernel
theorem dX6_explore_104 : decode cX6_explore 104 = .ok (.iload 6, 2) := by decide +kernel
theorem dX6_explore_106 : decode cX6_explore 106 = .ok (.aaload, 1) := by decide +kernel
theorem dX6_explore_107 : decode cX6_explore 107 = .ok (.iload 7, 2) := by decide +kernel
theorem dX6_explore_109 : decode cX6_explore 109 = .ok (.aaload, 1) := by decide +kernel
theorem dX6_explore_110 : decode cX6_explore 110 = .ok (.astore 8, 2) := by decide +kernel
theorem dX6_explore_112 : decode cX6_explore 112 = .ok (.aload_n 0, 1) := by decide +kernel
theorem dX6_explore_113 : decode cX6_explore 113 = .ok (.aload_n 0, 1) := by decide +kernel
theorem dX6_explore_114 : decode cX6_explore 114 = .ok (.getfield 25, 3) := by decide +kernel
theorem dX6_explore_117 : decode cX6_explore 117 = .ok (.iload 4, 2) := by decide +kernel
theorem dX6_explore_119 : decode cX6_explore 119 = .ok (.aaload, 1) := by decide +kernel
theorem dX6_explore_120 : decode cX6_explore 120 = .ok (.iload 6, 2) := by decide +kernel
theorem dX6_explore_122 : decode cX6_explore 122 = .ok (.aload 8, 2) := by decide +kernel
theorem dX6_explore_124 : decode cX6_explore 124 = .ok (.invokevirtual 62, 3) := by decide +kernel
theorem dX6_explore_127 : decode cX6_explore 127 = .ok (.ifCond .ne 6, 3) := by decide +kernel
theorem dX6_explore_130 : decode cX6_explore 130 = .ok (.goto 236, 3) := by decide +kernel
theorem dX6_explore_133 : decode cX6_explore 133 = .ok (.aload_n 0, 1) := by decide +kernel
theorem dX6_explore_134 : decode cX6_explore 134 = .ok (.aload_n 0, 1) := by decide +kernel
theorem dX6_explore_135 : decode cX6_explore 135 = .ok (.getfield 25, 3) := by decide +kernel
theorem dX6_explore_138 : decode cX6_explore 138 = .ok (.iload 4, 2) := by decide +kernel
theorem dX6_explore_140 : decode cX6_explore 140 = .ok (.aaload, 1) := by decide +kernel
theorem dX6_explore_141 : decode cX6_explore 141 = .ok (.iload 6, 2) := by decide +kernel
theorem dX6_explore_143 : decode cX6_explore 143 = .ok (.aload 8, 2) := by decide +kernel
theorem dX6_explore_145 : decode cX6_explore 145 = .ok (.invokevirtual 43, 3) := by decide +kernel
theorem dX6_explore_148 : decode cX6_explore 148 = .ok (.astore 9, 2) := by decide +kernel
theorem dX6_explore_150 : decode cX6_explore 150 = .ok (.aload 8, 2) := by decide +kernel
theorem dX6_explore_152 : decode cX6_explore 152 = .ok (.iconst 2, 1) := by decide +kernel
theorem dX6_explore_153 : decode cX6_explore 153 = .ok (.iaload, 1) := by decide +kernel
theorem dX6_explore_154 : decode cX6_explore 154 = .ok (.ifCond .ne 45, 3) := by decide +kernel
theorem dX6_explore_157 : decode cX6_explore 157 = .ok (.aload 5, 2) := by decide +kernel
theorem dX6_explore_159 : decode cX6_explore 159 = .ok (.iconst 5, 1) := by decide +kernel
theorem dX6_explore_160 : decode cX6_explore 160 = .ok (.newarray .int, 2) := by decide +kernel
theorem dX6_explore_162 : decode cX6_explore 162 = .ok (.dup, 1) := by decide +kernel
theorem dX6_explore_163 : decode cX6_explore 163 = .ok (.iconst 0, 1) := by decide +kernel
theorem dX6_explore_164 : decode cX6_explore 164 = .ok (.aload_n 0, 1) := by decide +kernel
theorem dX6_explore_165 : decode cX6_explore 165 = .ok (.aload 9, 2) := by decide +kernel
theorem dX6_explore_167 : decode cX6_explore 167 = .ok (.iload 4, 2) := by decide +kernel
theorem dX6_explore_169 : decode cX6_explore 169 = .ok (.aload 5, 2) := by decide +kernel
theorem dX6_explore_171 : decode cX6_explore 171 = .ok (.arraylength, 1) := by decide +kernel
theorem dX6_explore_172 : decode cX6_explore 172 = .ok (.invokevirtual 58, 3) := by decide +kernel
theorem dX6_explore_175 : decode cX6_explore 175 = .ok (.iastore, 1) := by decide +kernel
theorem dX6_explore_176 : decode cX6_explore 176 = .ok (.dup, 1) := by decide +kernel
theorem dX6_explore_177 : decode cX6_explore 177 = .ok (.iconst 1, 1) := by decide +kernel
theorem dX6_explore_178 : decode cX6_explore 178 = .ok (.iload 6, 2) := by decide +kernel
theorem dX6_explore_180 : decode cX6_explore 180 = .ok (.iastore, 1) := by decide +kernel
theorem dX6_explore_181 : decode cX6_explore 181 = .ok (.dup, 1) := by decide +kernel
theorem dX6_explore_182 : decode cX6_explore 182 = .ok (.iconst 2, 1) := by decide +kernel
theorem dX6_explore_183 : decode cX6_explore 183 = .ok (.iload 7, 2) := by decide +kernel
theorem dX6_explore_185 : decode cX6_explore 185 = .ok (.iastore, 1) := by decide +kernel
theorem dX6_explore_186 : decode cX6_explore 186 = .ok (.dup, 1) := by decide +kernel
theorem dX6_explore_187 : decode cX6_explore 187 = .ok (.iconst 3, 1) := by decide +kernel
theorem dX6_explore_188 : decode cX6_explore 188 = .ok (.iconst (-1), 1) := by decide +kernel
theorem dX6_explore_189 : decode cX6_explore 189 = .ok (.iastore, 1) := by decide +kernel
theorem dX6_explore_190 : decode cX6_explore 190 = .ok (.dup, 1) := by decide +kernel
theorem dX6_explore_191 : decode cX6_explore 191 = .ok (.iconst 4, 1) := by decide +kernel
theorem dX6_explore_192 : decode cX6_explore 192 = .ok (.iconst (-1), 1) := by decide +kernel
theorem dX6_explore_193 : decode cX6_explore 193 = .ok (.iastore, 1) := by decide +kernel
theorem dX6_explore_194 : decode cX6_explore 194 = .ok (.invokestatic 51, 3) := by decide +kernel
theorem dX6_explore_197 : decode cX6_explore 197 = .ok (.astore 5, 2) := by decide +kernel
theorem dX6_explore_199 : decode cX6_explore 199 = .ok (.iload 6, 2) := by decide +kernel
theorem dX6_explore_201 : decode cX6_explore 201 = .ok (.iconst 1, 1) := by decide +kernel
theorem dX6_explore_202 : decode cX6_explore 202 = .ok (.iadd, 1) := by decide +kernel
theorem dX6_explore_203 : decode cX6_explore 203 = .ok (.istore 10, 2) := by decide +kernel
theorem dX6_explore_205 : decode cX6_explore 205 = .ok (.iload 10, 2) := by decide +kernel
theorem dX6_explore_207 : decode cX6_explore 207 = .ok (.iload_n 2, 1) := by decide +kernel
theorem dX6_explore_208 : decode cX6_explore 208 = .ok (.if_icmp .ge 147, 3) := by decide +kernel
theorem dX6_explore_211 : decode cX6_explore 211 = .ok (.aload 8, 2) := by decide +kernel
theorem dX6_explore_213 : decode cX6_explore 213 = .ok (.iconst 2, 1) := by decide +kernel
theorem dX6_explore_214 : decode cX6_explore 214 = .ok (.iaload, 1) := by decide +kernel
theorem dX6_explore_215 : decode cX6_explore 215 = .ok (.ifCond .le 140, 3) := by decide +kernel
theorem dX6_explore_218 : decode cX6_explore 218 = .ok (.iconst 0, 1) := by decide +kernel
theorem dX6_explore_219 : decode cX6_explore 219 = .ok (.istore 11, 2) := by decide +kernel
theorem dX6_explore_221 : decode cX6_explore 221 = .ok (.iload 11, 2) := by decide +kernel
theorem dX6_explore_223 : decode cX6_explore 223 = .ok (.aload_n 0, 1) := by decide +kernel
theorem dX6_explore_224 : decode cX6_explore 224 = .ok (.getfield 21, 3) := by decide +kernel
theorem dX6_explore_227 : decode cX6_explore 227 = .ok (.iload 10, 2) := by decide +kernel
theorem dX6_explore_229 : decode cX6_explore 229 = .ok (.aaload, 1) := by decide +kernel
theorem dX6_explore_230 : decode cX6_explore 230 = .ok (.arraylength, 1) := by decide +kernel
theorem dX6_explore_231 : decode cX6_explore 231 = .ok (.if_icmp .ge 118, 3) := by decide +kernel
theorem dX6_explore_234 : decode cX6_explore 234 = .ok (.aload_n 0, 1) := by decide +kernel
theorem dX6_explore_235 : decode cX6_explore 235 = .ok (.getfield 21, 3) := by decide +kernel
theorem dX6_explore_238 : decode cX6_explore 238 = .ok (.iload 10, 2) := by decide +kernel
theorem dX6_explore_240 : decode cX6_explore 240 = .ok (.aaload, 1) := by decide +kernel
theorem dX6_explore_241 : decode cX6_explore 241 = .ok (.iload 11, 2) := by decide +kernel
theorem dX6_explore_243 : decode cX6_explore 243 = .ok (.aaload, 1) := by decide +kernel
theorem dX6_explore_244 : decode cX6_explore 244 = .ok (.astore 12, 2) := by decide +kernel
theorem dX6_explore_246 : decode cX6_explore 246 = .ok (.aload 12, 2) := by decide +kernel
theorem dX6_explore_248 : decode cX6_explore 248 = .ok (.iconst 2, 1) := by decide +kernel
theorem dX6_explore_249 : decode cX6_explore 249 = .ok (.iaload, 1) := by decide +kernel
theorem dX6_explore_250 : decode cX6_explore 250 = .ok (.aload 8, 2) := by decide +kernel
theorem dX6_explore_252 : decode cX6_explore 252 = .ok (.iconst 2, 1) := by decide +kernel
theorem dX6_explore_253 : decode cX6_explore 253 = .ok (.iaload, 1) := by decide +kernel
theorem dX6_explore_254 : decode cX6_explore 254 = .ok (.if_icmp .ne 89, 3) := by decide +kernel
theorem dX6_explore_257 : decode cX6_explore 257 = .ok (.aload_n 0, 1) := by decide +kernel
theorem dX6_explore_258 : decode cX6_explore 258 = .ok (.aload_n 0, 1) := by decide +kernel
theorem dX6_explore_259 : decode cX6_explore 259 = .ok (.getfield 25, 3) := by decide +kernel
theorem dX6_explore_262 : decode cX6_explore 262 = .ok (.iload 4, 2) := by decide +kernel
theorem dX6_explore_264 : decode cX6_explore 264 = .ok (.aaload, 1) := by decide +kernel
theorem dX6_explore_265 : decode cX6_explore 265 = .ok (.iload 10, 2) := by decide +kernel
theorem dX6_explore_267 : decode cX6_explore 267 = .ok (.aload 12, 2) := by decide +kernel
theorem dX6_explore_269 : decode cX6_explore 269 = .ok (.invokevirtual 62, 3) := by decide +kernel
theorem dX6_explore_272 : decode cX6_explore 272 = .ok (.ifCond .eq 71, 3) := by decide +kernel
theorem dX6_explore_275 : decode cX6_explore 275 = .ok (.aload_n 0, 1) := by decide +kernel
theorem dX6_explore_276 : decode cX6_explore 276 = .ok (.aload 9, 2) := by decide +kernel
theorem dX6_explore_278 : decode cX6_explore 278 = .ok (.iload 10, 2) := by decide +kernel
theorem dX6_explore_280 : decode cX6_explore 280 = .ok (.aload 12, 2) := by decide +kernel
theorem dX6_explore_282 : decode cX6_explore 282 = .ok (.invokevirtual 43, 3) := by decide +kernel
theorem dX6_explore_285 : decode cX6_explore 285 = .ok (.ifnonnull 6, 3) := by decide +kernel
theorem dX6_explore_288 : decode cX6_explore 288 = .ok (.goto 55, 3) := by decide +kernel
theorem dX6_explore_291 : decode cX6_explore 291 = .ok (.aload 5, 2) := by decide +kernel
theorem dX6_explore_293 : decode cX6_explore 293 = .ok (.iconst 5, 1) := by decide +kernel
theorem dX6_explore_294 : decode cX6_explore 294 = .ok (.newarray .int, 2) := by decide +kernel
theorem dX6_explore_296 : decode cX6_explore 296 = .ok (.dup, 1) := by decide +kernel
theorem dX6_explore_297 : decode cX6_explore 297 = .ok (.iconst 0, 1) := by decide +kernel
theorem dX6_explore_298 : decode cX6_explore 298 = .ok (.aload_n 0, 1) := by decide +kernel
theorem dX6_explore_299 : decode cX6_explore 299 = .ok (.aload_n 0, 1) := by decide +kernel
theorem dX6_explore_300 : decode cX6_explore 300 = .ok (.aload 9, 2) := by decide +kernel
theorem dX6_explore_302 : decode cX6_explore 302 = .ok (.iload 10, 2) := by decide +kernel
theorem dX6_explore_304 : decode cX6_explore 304 = .ok (.aload 12, 2) := by decide +kernel
theorem dX6_explore_306 : decode cX6_explore 306 = .ok (.invokevirtual 43, 3) := by decide +kernel
theorem dX6_explore_309 : decode cX6_explore 309 = .ok (.iload 4, 2) := by decide +kernel
theorem dX6_explore_311 : decode cX6_explore 311 = .ok (.aload 5, 2) := by decide +kernel
theorem dX6_explore_313 : decode cX6_explore 313 = .ok (.arraylength, 1) := by decide +kernel
theorem dX6_explore_314 : decode cX6_explore 314 = .ok (.invokevirtual 58, 3) := by decide +kernel
theorem dX6_explore_317 : decode cX6_explore 317 = .ok (.iastore, 1) := by decide +kernel
theorem dX6_explore_318 : decode cX6_explore 318 = .ok (.dup, 1) := by decide +kernel
theorem dX6_explore_319 : decode cX6_explore 319 = .ok (.iconst 1, 1) := by decide +kernel
theorem dX6_explore_320 : decode cX6_explore 320 = .ok (.iload 6, 2) := by decide +kernel
theorem dX6_explore_322 : decode cX6_explore 322 = .ok (.iastore, 1) := by decide +kernel
theorem dX6_explore_323 : decode cX6_explore 323 = .ok (.dup, 1) := by decide +kernel
theorem dX6_explore_324 : decode cX6_explore 324 = .ok (.iconst 2, 1) := by decide +kernel
theorem dX6_explore_325 : decode cX6_explore 325 = .ok (.iload 7, 2) := by decide +kernel
theorem dX6_explore_327 : decode cX6_explore 327 = .ok (.iastore, 1) := by decide +kernel
theorem dX6_explore_328 : decode cX6_explore 328 = .ok (.dup, 1) := by decide +kernel
theorem dX6_explore_329 : decode cX6_explore 329 = .ok (.iconst 3, 1) := by decide +kernel
theorem dX6_explore_330 : decode cX6_explore 330 = .ok (.iload 10, 2) := by decide +kernel
theorem dX6_explore_332 : decode cX6_explore 332 = .ok (.iastore, 1) := by decide +kernel
theorem dX6_explore_333 : decode cX6_explore 333 = .ok (.dup, 1) := by decide +kernel
theorem dX6_explore_334 : decode cX6_explore 334 = .ok (.iconst 4, 1) := by decide +kernel
theorem dX6_explore_335 : decode cX6_explore 335 = .ok (.iload 11, 2) := by decide +kernel
theorem dX6_explore_337 : decode cX6_explore 337 = .ok (.iastore, 1) := by decide +kernel
theorem dX6_explore_338 : decode cX6_explore 338 = .ok (.invokestatic 51, 3) := by decide +kernel
theorem dX6_explore_341 : decode cX6_explore 341 = .ok (.astore 5, 2) := by decide +kernel
theorem dX6_explore_343 : decode cX6_explore 343 = .ok (.iinc 11 1, 3) := by decide +kernel
theorem dX6_explore_346 : decode cX6_explore 346 = .ok (.goto (-125), 3) := by decide +kernel
theorem dX6_explore_349 : decode cX6_explore 349 = .ok (.iinc 10 1, 3) := by decide +kernel
theorem dX6_explore_352 : decode cX6_explore 352 = .ok (.goto (-147), 3) := by decide +kernel
theorem dX6_explore_355 : decode cX6_explore 355 = .ok (.aload_n 0, 1) := by decide +kernel
theorem dX6_explore_356 : decode cX6_explore 356 = .ok (.getfield 25, 3) := by decide +kernel
theorem dX6_explore_359 : decode cX6_explore 359 = .ok (.arraylength, 1) := by decide +kernel
theorem dX6_explore_360 : decode cX6_explore 360 = .ok (.iload_n 1, 1) := by decide +kernel
theorem dX6_explore_361 : decode cX6_explore 361 = .ok (.if_icmp .le 5, 3) := by decide +kernel
theorem dX6_explore_364 : decode cX6_explore 364 = .ok (.iconst 0, 1) := by decide +kernel
theorem dX6_explore_365 : decode cX6_explore 365 = .ok (.ireturn, 1) := by decide +kernel
theorem dX6_explore_366 : decode cX6_explore 366 = .ok (.iinc 7 1, 3) := by decide +kernel
theorem dX6_explore_369 : decode cX6_explore 369 = .ok (.goto (-282), 3) := by decide +kernel
theorem dX6_explore_372 : decode cX6_explore 372 = .ok (.iinc 6 1, 3) := by decide +kernel
theorem dX6_explore_375 : decode cX6_explore 375 = .ok (.goto (-297), 3) := by decide +kernel
theorem dX6_explore_378 : decode cX6_explore 378 = .ok (.aload_n 0, 1) := by decide +kernel
theorem dX6_explore_379 : decode cX6_explore 379 = .ok (.getfield 30, 3) := by decide +kernel
theorem dX6_explore_382 : decode cX6_explore 382 = .ok (.arraylength, 1) := by decide +kernel
theorem dX6_explore_383 : decode cX6_explore 383 = .ok (.iconst 1, 1) := by decide +kernel
theorem dX6_explore_384 : decode cX6_explore 384 = .ok (.iadd, 1) := by decide +kernel
theorem dX6_explore_385 : decode cX6_explore 385 = .ok (.anewarray 29, 3) := by decide +kernel
theorem dX6_explore_388 : decode cX6_explore 388 = .ok (.astore 6, 2) := by decide +kernel
theorem dX6_explore_390 : decode cX6_explore 390 = .ok (.iconst 0, 1) := by decide +kernel
theorem dX6_explore_391 : decode cX6_explore 391 = .ok (.istore 7, 2) := by decide +kernel
theorem dX6_explore_393 : decode cX6_explore 393 = .ok (.iload 7, 2) := by decide +kernel
theorem dX6_explore_395 : decode cX6_explore 395 = .ok (.aload_n 0, 1) := by decide +kernel
theorem dX6_explore_396 : decode cX6_explore 396 = .ok (.getfield 30, 3) := by decide +kernel
theorem dX6_explore_399 : decode cX6_explore 399 = .ok (.arraylength, 1) := by decide +kernel
theorem dX6_explore_400 : decode cX6_explore 400 = .ok (.if_icmp .ge 21, 3) := by decide +kernel
theorem dX6_explore_403 : decode cX6_explore 403 = .ok (.aload 6, 2) := by decide +kernel
theorem dX6_explore_405 : decode cX6_explore 405 = .ok (.iload 7, 2) := by decide +kernel
theorem dX6_explore_407 : decode cX6_explore 407 = .ok (.aload_n 0, 1) := by decide +kernel
theorem dX6_explore_408 : decode cX6_explore 408 = .ok (.getfield 30, 3) := by decide +kernel
theorem dX6_explore_411 : decode cX6_explore 411 = .ok (.iload 7, 2) := by decide +kernel
theorem dX6_explore_413 : decode cX6_explore 413 = .ok (.aaload, 1) := by decide +kernel
theorem dX6_explore_414 : decode cX6_explore 414 = .ok (.aastore, 1) := by decide +kernel
theorem dX6_explore_415 : decode cX6_explore 415 = .ok (.iinc 7 1, 3) := by decide +kernel
theorem dX6_explore_418 : decode cX6_explore 418 = .ok (.goto (-25), 3) := by decide +kernel
theorem dX6_explore_421 : decode cX6_explore 421 = .ok (.aload 6, 2) := by decide +kernel
theorem dX6_explore_423 : decode cX6_explore 423 = .ok (.aload_n 0, 1) := by decide +kernel
theorem dX6_explore_424 : decode cX6_explore 424 = .ok (.getfield 30, 3) := by decide +kernel
theorem dX6_explore_427 : decode cX6_explore 427 = .ok (.arraylength, 1) := by decide +kernel
theorem dX6_explore_428 : decode cX6_explore 428 = .ok (.aload 5, 2) := by decide +kernel
theorem dX6_explore_430 : decode cX6_explore 430 = .ok (.aastore, 1) := by decide +kernel
theorem dX6_explore_431 : decode cX6_explore 431 = .ok (.aload_n 0, 1) := by decide +kernel
theorem dX6_explore_432 : decode cX6_explore 432 = .ok (.aload 6, 2) := by decide +kernel
theorem dX6_explore_434 : decode cX6_explore 434 = .ok (.putfield 30, 3) := by decide +kernel
theorem dX6_explore_437 : decode cX6_explore 437 = .ok (.iinc 4 1, 3) := by decide +kernel
theorem dX6_explore_440 : decode cX6_explore 440 = .ok (.goto (-381), 3) := by decide +kernel
theorem dX6_explore_443 : decode cX6_explore 443 = .ok (.iconst 1, 1) := by decide +kernel
theorem dX6_explore_444 : decode cX6_explore 444 = .ok (.ireturn, 1) := by decide +kernel
theorem dJ9_min_7cf53_0 : decode cJ9_min_7cf53 0 = .ok (.iload_n 0, 1) := by decide +kernel
theorem dJ9_min_7cf53_1 : decode cJ9_min_7cf53 1 = .ok (.iload_n 1, 1) := by decide +kernel
theorem dJ9_min_7cf53_2 : decode cJ9_min_7cf53 2 = .ok (.if_icmp .gt 7, 3) := by decide +kernel
theorem dJ9_min_7cf53_5 : decode cJ9_min_7cf53 5 = .ok (.iload_n 0, 1) := by decide +kernel
theorem dJ9_min_7cf53_6 : decode cJ9_min_7cf53 6 = .ok (.goto 4, 3) := by decide +kernel
theorem dJ9_min_7cf53_9 : decode cJ9_min_7cf53 9 = .ok (.iload_n 1, 1) := by decide +kernel
theorem dJ9_min_7cf53_10 : decode cJ9_min_7cf53 10 = .ok (.ireturn, 1) := by decide +kernel
theorem dJ7_fill_53178_0 : decode cJ7_fill_53178 0 = .ok (.iconst 0, 1) := by decide +kernel
theorem dJ7_fill_53178_1 : decode cJ7_fill_53178 1 = .ok (.istore_n 2, 1) := by decide +kernel
theorem dJ7_fill_53178_2 : decode cJ7_fill_53178 2 = .ok (.aload_n 0, 1) := by decide +kernel
theorem dJ7_fill_53178_3 : decode cJ7_fill_53178 3 = .ok (.arraylength, 1) := by decide +kernel
theorem dJ7_fill_53178_4 : decode cJ7_fill_53178 4 = .ok (.istore_n 3, 1) := by decide +kernel
theorem dJ7_fill_53178_5 : decode cJ7_fill_53178 5 = .ok (.iload_n 2, 1) := by decide +kernel
theorem dJ7_fill_53178_6 : decode cJ7_fill_53178 6 = .ok (.iload_n 3, 1) := by decide +kernel
theorem dJ7_fill_53178_7 : decode cJ7_fill_53178 7 = .ok (.if_icmp .ge 13, 3) := by decide +kernel
theorem dJ7_fill_53178_10 : decode cJ7_fill_53178 10 = .ok (.aload_n 0, 1) := by decide +kernel
theorem dJ7_fill_53178_11 : decode cJ7_fill_53178 11 = .ok (.iload_n 2, 1) := by decide +kernel
theorem dJ7_fill_53178_12 : decode cJ7_fill_53178 12 = .ok (.iload_n 1, 1) := by decide +kernel
theorem dJ7_fill_53178_13 : decode cJ7_fill_53178 13 = .ok (.iastore, 1) := by decide +kernel
theorem dJ7_fill_53178_14 : decode cJ7_fill_53178 14 = .ok (.iinc 2 1, 3) := by decide +kernel
theorem dJ7_fill_53178_17 : decode cJ7_fill_53178 17 = .ok (.goto (-12), 3) := by decide +kernel
theorem dJ7_fill_53178_20 : decode cJ7_fill_53178 20 = .ok (.return_, 1) := by decide +kernel
theorem dJ7_copyOf_59c91_0 : decode cJ7_copyOf_59c91 0 = .ok (.iload_n 1, 1) := by decide +kernel
theorem dJ7_copyOf_59c91_1 : decode cJ7_copyOf_59c91 1 = .ok (.aload_n 0, 1) := by decide +kernel
theorem dJ7_copyOf_59c91_2 : decode cJ7_copyOf_59c91 2 = .ok (.arraylength, 1) := by decide +kernel
theorem dJ7_copyOf_59c91_3 : decode cJ7_copyOf_59c91 3 = .ok (.if_icmp .ne 11, 3) := by decide +kernel
theorem dJ7_copyOf_59c91_6 : decode cJ7_copyOf_59c91 6 = .ok (.aload_n 0, 1) := by decide +kernel
theorem dJ7_copyOf_59c91_7 : decode cJ7_copyOf_59c91 7 = .ok (.invokevirtual 316, 3) := by decide +kernel
theorem dJ7_copyOf_59c91_10 : decode cJ7_copyOf_59c91 10 = .ok (.checkcast 317, 3) := by decide +kernel
theorem dJ7_copyOf_59c91_13 : decode cJ7_copyOf_59c91 13 = .ok (.areturn, 1) := by decide +kernel
theorem dJ7_copyOf_59c91_14 : decode cJ7_copyOf_59c91 14 = .ok (.iload_n 1, 1) := by decide +kernel
theorem dJ7_copyOf_59c91_15 : decode cJ7_copyOf_59c91 15 = .ok (.newarray .int, 2) := by decide +kernel
theorem dJ7_copyOf_59c91_17 : decode cJ7_copyOf_59c91 17 = .ok (.astore_n 2, 1) := by decide +kernel
theorem dJ7_copyOf_59c91_18 : decode cJ7_copyOf_59c91 18 = .ok (.aload_n 0, 1) := by decide +kernel
theorem dJ7_copyOf_59c91_19 : decode cJ7_copyOf_59c91 19 = .ok (.iconst 0, 1) := by decide +kernel
theorem dJ7_copyOf_59c91_20 : decode cJ7_copyOf_59c91 20 = .ok (.aload_n 2, 1) := by decide +kernel
theorem dJ7_copyOf_59c91_21 : decode cJ7_copyOf_59c91 21 = .ok (.iconst 0, 1) := by decide +kernel
theorem dJ7_copyOf_59c91_22 : decode cJ7_copyOf_59c91 22 = .ok (.aload_n 0, 1) := by decide +kernel
theorem dJ7_copyOf_59c91_23 : decode cJ7_copyOf_59c91 23 = .ok (.arraylength, 1) := by decide +kernel
theorem dJ7_copyOf_59c91_24 : decode cJ7_copyOf_59c91 24 = .ok (.iload_n 1, 1) := by decide +kernel
theorem dJ7_copyOf_59c91_25 : decode cJ7_copyOf_59c91 25 = .ok (.invokestatic 304, 3) := by decide +kernel
theorem dJ7_copyOf_59c91_28 : decode cJ7_copyOf_59c91 28 = .ok (.invokestatic 150, 3) := by decide +kernel
theorem dJ7_copyOf_59c91_31 : decode cJ7_copyOf_59c91 31 = .ok (.aload_n 2, 1) := by decide +kernel
theorem dJ7_copyOf_59c91_32 : decode cJ7_copyOf_59c91 32 = .ok (.areturn, 1) := by decide +kernel
theorem dL_below_0 : decode cL_below 0 = .ok (.iload_n 0, 1) := by decide +kernel
theorem dL_below_1 : decode cL_below 1 = .ok (.ldc 7, 2) := by decide +kernel
theorem dL_below_3 : decode cL_below 3 = .ok (.iand, 1) := by decide +kernel
theorem dL_below_4 : decode cL_below 4 = .ok (.iload_n 1, 1) := by decide +kernel
theorem dL_below_5 : decode cL_below 5 = .ok (.irem, 1) := by decide +kernel
theorem dL_below_6 : decode cL_below 6 = .ok (.ireturn, 1) := by decide +kernel
theorem dL_cell_0 : decode cL_cell 0 = .ok (.iload_n 1, 1) := by decide +kernel
theorem dL_cell_1 : decode cL_cell 1 = .ok (.aload_n 0, 1) := by decide +kernel
theorem dL_cell_2 : decode cL_cell 2 = .ok (.arraylength, 1) := by decide +kernel
theorem dL_cell_3 : decode cL_cell 3 = .ok (.if_icmp .ge 9, 3) := by decide +kernel
theorem dL_cell_6 : decode cL_cell 6 = .ok (.aload_n 0, 1) := by decide +kernel
theorem dL_cell_7 : decode cL_cell 7 = .ok (.iload_n 1, 1) := by decide +kernel
theorem dL_cell_8 : decode cL_cell 8 = .ok (.iaload, 1) := by decide +kernel
theorem dL_cell_9 : decode cL_cell 9 = .ok (.goto 9, 3) := by decide +kernel
theorem dL_cell_12 : decode cL_cell 12 = .ok (.ldc 8, 2) := by decide +kernel
theorem dL_cell_14 : decode cL_cell 14 = .ok (.iload_n 1, 1) := by decide +kernel
theorem dL_cell_15 : decode cL_cell 15 = .ok (.iconst 3, 1) := by decide +kernel
theorem dL_cell_16 : decode cL_cell 16 = .ok (.iadd, 1) := by decide +kernel
theorem dL_cell_17 : decode cL_cell 17 = .ok (.imul, 1) := by decide +kernel
theorem dL_cell_18 : decode cL_cell 18 = .ok (.ireturn, 1) := by decide +kernel
theorem dL_build_0 : decode cL_build 0 = .ok (.new 9, 3) := by decide +kernel
theorem dL_build_3 : decode cL_build 3 = .ok (.dup, 1) := by decide +kernel
theorem dL_build_4 : decode cL_build 4 = .ok (.invokespecial 11, 3) := by decide +kernel
theorem dL_build_7 : decode cL_build 7 = .ok (.astore_n 2, 1) := by decide +kernel
theorem dL_build_8 : decode cL_build 8 = .ok (.iconst 1, 1) := by decide +kernel
theorem dL_build_9 : decode cL_build 9 = .ok (.aload_n 1, 1) := by decide +kernel
theorem dL_build_10 : decode cL_build 10 = .ok (.iconst 0, 1) := by decide +kernel
theorem dL_build_11 : decode cL_build 11 = .ok (.invokestatic 12, 3) := by decide +kernel
theorem dL_build_14 : decode cL_build 14 = .ok (.iconst 3, 1) := by decide +kernel
theorem dL_build_15 : decode cL_build 15 = .ok (.invokestatic 18, 3) := by decide +kernel
theorem dL_build_18 : decode cL_build 18 = .ok (.iadd, 1) := by decide +kernel
theorem dL_build_19 : decode cL_build 19 = .ok (.istore_n 3, 1) := by decide +kernel
theorem dL_build_20 : decode cL_build 20 = .ok (.aload_n 1, 1) := by decide +kernel
theorem dL_build_21 : decode cL_build 21 = .ok (.iconst 0, 1) := by decide +kernel
theorem dL_build_22 : decode cL_build 22 = .ok (.invokestatic 12, 3) := by decide +kernel
theorem dL_build_25 : decode cL_build 25 = .ok (.iconst 3, 1) := by decide +kernel
theorem dL_build_26 : decode cL_build 26 = .ok (.ishr, 1) := by decide +kernel
theorem dL_build_27 : decode cL_build 27 = .ok (.iconst 3, 1) := by decide +kernel
theorem dL_build_28 : decode cL_build 28 = .ok (.invokestatic 18, 3) := by decide +kernel
theorem dL_build_31 : decode cL_build 31 = .ok (.istore 4, 2) := by decide +kernel
theorem dL_build_33 : decode cL_build 33 = .ok (.iconst 0, 1) := by decide +kernel
theorem dL_build_34 : decode cL_build 34 = .ok (.istore 5, 2) := by decide +kernel
theorem dL_build_36 : decode cL_build 36 = .ok (.iload 5, 2) := by decide +kernel
theorem dL_build_38 : decode cL_build 38 = .ok (.iload_n 3, 1) := by decide +kernel
theorem dL_build_39 : decode cL_build 39 = .ok (.if_icmp .ge 53, 3) := by decide +kernel
theorem dL_build_42 : decode cL_build 42 = .ok (.iconst 1, 1) := by decide +kernel
theorem dL_build_43 : decode cL_build 43 = .ok (.aload_n 1, 1) := by decide +kernel
theorem dL_build_44 : decode cL_build 44 = .ok (.iconst 1, 1) := by decide +kernel
theorem dL_build_45 : decode cL_build 45 = .ok (.invokestatic 12, 3) := by decide +kernel
theorem dL_build_48 : decode cL_build 48 = .ok (.iconst 3, 1) := by decide +kernel
theorem dL_build_49 : decode cL_build 49 = .ok (.iload 5, 2) := by decide +kernel
theorem dL_build_51 : decode cL_build 51 = .ok (.imul, 1) := by decide +kernel
theorem dL_build_52 : decode cL_build 52 = .ok (.ishr, 1) := by decide +kernel
theorem dL_build_53 : decode cL_build 53 = .ok (.iconst 4, 1) := by decide +kernel
theorem dL_build_54 : decode cL_build 54 = .ok (.invokestatic 18, 3) := by decide +kernel
theorem dL_build_57 : decode cL_build 57 = .ok (.iadd, 1) := by decide +kernel
theorem dL_build_58 : decode cL_build 58 = .ok (.istore 6, 2) := by decide +kernel
theorem dL_build_60 : decode cL_build 60 = .ok (.aload_n 2, 1) := by decide +kernel
theorem dL_build_61 : decode cL_build 61 = .ok (.aload_n 2, 1) := by decide +kernel
theorem dL_build_62 : decode cL_build 62 = .ok (.getfield 22, 3) := by decide +kernel
theorem dL_build_65 : decode cL_build 65 = .ok (.iload 6, 2) := by decide +kernel
theorem dL_build_67 : decode cL_build 67 = .ok (.invokestatic 26, 3) := by decide +kernel
theorem dL_build_70 : decode cL_build 70 = .ok (.putfield 22, 3) := by decide +kernel
theorem dL_build_73 : decode cL_build 73 = .ok (.aload_n 0, 1) := by decide +kernel
theorem dL_build_74 : decode cL_build 74 = .ok (.iload 6, 2) := by decide +kernel
theorem dL_build_76 : decode cL_build 76 = .ok (.invokevirtual 30, 3) := by decide +kernel
theorem dL_build_79 : decode cL_build 79 = .ok (.iload 5, 2) := by decide +kernel
theorem dL_build_81 : decode cL_build 81 = .ok (.if_icmp .eq 5, 3) := by decide +kernel
theorem dL_build_84 : decode cL_build 84 = .ok (.aconst_null, 1) := by decide +kernel
theorem dL_build_85 : decode cL_build 85 = .ok (.areturn, 1) := by decide +kernel
theorem dL_build_86 : decode cL_build 86 = .ok (.iinc 5 1, 3) := by decide +kernel
theorem dL_build_89 : decode cL_build 89 = .ok (.goto (-53), 3) := by decide +kernel
theorem dL_build_92 : decode cL_build 92 = .ok (.iconst 0, 1) := by decide +kernel
theorem dL_build_93 : decode cL_build 93 = .ok (.istore 5, 2) := by decide +kernel
theorem dL_build_95 : decode cL_build 95 = .ok (.iload 5, 2) := by decide +kernel
theorem dL_build_97 : decode cL_build 97 = .ok (.iload 4, 2) := by decide +kernel
theorem dL_build_99 : decode cL_build 99 = .ok (.if_icmp .ge 89, 3) := by decide +kernel
theorem dL_build_102 : decode cL_build 102 = .ok (.iconst 1, 1) := by decide +kernel
theorem dL_build_103 : decode cL_build 103 = .ok (.aload_n 1, 1) := by decide +kernel
theorem dL_build_104 : decode cL_build 104 = .ok (.iconst 2, 1) := by decide +kernel
theorem dL_build_105 : decode cL_build 105 = .ok (.invokestatic 12, 3) := by decide +kernel
theorem dL_build_108 : decode cL_build 108 = .ok (.iconst 4, 1) := by decide +kernel
theorem dL_build_109 : decode cL_build 109 = .ok (.iload 5, 2) := by decide +kernel
theorem dL_build_111 : decode cL_build 111 = .ok (.imul, 1) := by decide +kernel
theorem dL_build_112 : decode cL_build 112 = .ok (.ishr, 1) := by decide +kernel
theorem dL_build_113 : decode cL_build 113 = .ok (.iconst 3, 1) := by decide +kernel
theorem dL_build_114 : decode cL_build 114 = .ok (.invokestatic 18, 3) := by decide +kernel
theorem dL_build_117 : decode cL_build 117 = .ok (.iadd, 1) := by decide +kernel
theorem dL_build_118 : decode cL_build 118 = .ok (.istore 6, 2) := by decide +kernel
theorem dL_build_120 : decode cL_build 120 = .ok (.aload_n 1, 1) := by decide +kernel
theorem dL_build_121 : decode cL_build 121 = .ok (.iconst 2, 1) := by decide +kernel
theorem dL_build_122 : decode cL_build 122 = .ok (.invokestatic 12, 3) := by decide +kernel
theorem dL_build_125 : decode cL_build 125 = .ok (.iconst 4, 1) := by decide +kernel
theorem dL_build_126 : decode cL_build 126 = .ok (.iload 5, 2) := by decide +kernel
theorem dL_build_128 : decode cL_build 128 = .ok (.imul, 1) := by decide +kernel
theorem dL_build_129 : decode cL_build 129 = .ok (.iconst 2, 1) := by decide +kernel
theorem dL_build_130 : decode cL_build 130 = .ok (.iadd, 1) := by decide +kernel
theorem dL_build_131 : decode cL_build 131 = .ok (.ishr, 1) := by decide +kernel
theorem dL_build_132 : decode cL_build 132 = .ok (.iload 6, 2) := by decide +kernel
theorem dL_build_134 : decode cL_build 134 = .ok (.iconst 1, 1) := by decide +kernel
theorem dL_build_135 : decode cL_build 135 = .ok (.iadd, 1) := by decide +kernel
theorem dL_build_136 : decode cL_build 136 = .ok (.invokestatic 18, 3) := by decide +kernel
theorem dL_build_139 : decode cL_build 139 = .ok (.istore 7, 2) := by decide +kernel
theorem dL_build_141 : decode cL_build 141 = .ok (.aload_n 2, 1) := by decide +kernel
theorem dL_build_142 : decode cL_build 142 = .ok (.aload_n 2, 1) := by decide +kernel
theorem dL_build_143 : decode cL_build 143 = .ok (.getfield 36, 3) := by decide +kernel
theorem dL_build_146 : decode cL_build 146 = .ok (.iload 6, 2) := by decide +kernel
theorem dL_build_148 : decode cL_build 148 = .ok (.invokestatic 26, 3) := by decide +kernel
theorem dL_build_151 : decode cL_build 151 = .ok (.putfield 36, 3) := by decide +kernel
theorem dL_build_154 : decode cL_build 154 = .ok (.aload_n 2, 1) := by decide +kernel
theorem dL_build_155 : decode cL_build 155 = .ok (.aload_n 2, 1) := by decide +kernel
theorem dL_build_156 : decode cL_build 156 = .ok (.getfield 39, 3) := by decide +kernel
theorem dL_build_159 : decode cL_build 159 = .ok (.iload 7, 2) := by decide +kernel
theorem dL_build_161 : decode cL_build 161 = .ok (.invokestatic 26, 3) := by decide +kernel
theorem dL_build_164 : decode cL_build 164 = .ok (.putfield 39, 3) := by decide +kernel
theorem dL_build_167 : decode cL_build 167 = .ok (.aload_n 0, 1) := by decide +kernel
theorem dL_build_168 : decode cL_build 168 = .ok (.iload 6, 2) := by decide +kernel
theorem dL_build_170 : decode cL_build 170 = .ok (.iload 7, 2) := by decide +kernel
theorem dL_build_172 : decode cL_build 172 = .ok (.invokevirtual 42, 3) := by decide +kernel
theorem dL_build_175 : decode cL_build 175 = .ok (.iload 5, 2) := by decide +kernel
theorem dL_build_177 : decode cL_build 177 = .ok (.if_icmp .eq 5, 3) := by decide +kernel
theorem dL_build_180 : decode cL_build 180 = .ok (.aconst_null, 1) := by decide +kernel
theorem dL_build_181 : decode cL_build 181 = .ok (.areturn, 1) := by decide +kernel
theorem dL_build_182 : decode cL_build 182 = .ok (.iinc 5 1, 3) := by decide +kernel
theorem dL_build_185 : decode cL_build 185 = .ok (.goto (-90), 3) := by decide +kernel
theorem dL_build_188 : decode cL_build 188 = .ok (.iconst 0, 1) := by decide +kernel
theorem dL_build_189 : decode cL_build 189 = .ok (.istore 5, 2) := by decide +kernel
theorem dL_build_191 : decode cL_build 191 = .ok (.iload 5, 2) := by decide +kernel
theorem dL_build_193 : decode cL_build 193 = .ok (.iload_n 3, 1) := by decide +kernel
theorem dL_build_194 : decode cL_build 194 = .ok (.if_icmp .ge 373, 3) := by decide +kernel
theorem dL_build_197 : decode cL_build 197 = .ok (.iconst 1, 1) := by decide +kernel
theorem dL_build_198 : decode cL_build 198 = .ok (.aload_n 1, 1) := by decide +kernel
theorem dL_build_199 : decode cL_build 199 = .ok (.iconst 3, 1) := by decide +kernel
theorem dL_build_200 : decode cL_build 200 = .ok (.invokestatic 12, 3) := by decide +kernel
theorem dL_build_203 : decode cL_build 203 = .ok (.iconst 4, 1) := by decide +kernel
theorem dL_build_204 : decode cL_build 204 = .ok (.iload 5, 2) := by decide +kernel
theorem dL_build_206 : decode cL_build 206 = .ok (.imul, 1) := by decide +kernel
theorem dL_build_207 : decode cL_build 207 = .ok (.ishr, 1) := by decide +kernel
theorem dL_build_208 : decode cL_build 208 = .ok (.bipush 6, 2) := by decide +kernel
theorem dL_build_210 : decode cL_build 210 = .ok (.invokestatic 18, 3) := by decide +kernel
theorem dL_build_213 : decode cL_build 213 = .ok (.iadd, 1) := by decide +kernel
theorem dL_build_214 : decode cL_build 214 = .ok (.istore 6, 2) := by decide +kernel
theorem dL_build_216 : decode cL_build 216 = .ok (.iconst 0, 1) := by decide +kernel
theorem dL_build_217 : decode cL_build 217 = .ok (.istore 7, 2) := by decide +kernel
theorem dL_build_219 : decode cL_build 219 = .ok (.iload 7, 2) := by decide +kernel
theorem dL_build_221 : decode cL_build 221 = .ok (.iload 6, 2) := by decide +kernel
theorem dL_build_223 : decode cL_build 223 = .ok (.if_icmp .ge 338, 3) := by decide +kernel
theorem dL_build_226 : decode cL_build 226 = .ok (.aload_n 1, 1) := by decide +kernel
theorem dL_build_227 : decode cL_build 227 = .ok (.iconst 4, 1) := by decide +kernel
theorem dL_build_228 : decode cL_build 228 = .ok (.iload 7, 2) := by decide +kernel
theorem dL_build_230 : decode cL_build 230 = .ok (.iconst 5, 1) := by decide +kernel
theorem dL_build_231 : decode cL_build 231 = .ok (.iload 5, 2) := by decide +kernel
theorem dL_build_233 : decode cL_build 233 = .ok (.imul, 1) := by decide +kernel
theorem dL_build_234 : decode cL_build 234 = .ok (.iadd, 1) := by decide +kernel
theorem dL_build_235 : decode cL_build 235 = .ok (.bipush 12, 2) := by decide +kernel
theorem dL_build_237 : decode cL_build 237 = .ok (.irem, 1) := by decide +kernel
theorem dL_build_238 : decode cL_build 238 = .ok (.iadd, 1) := by decide +kernel
theorem dL_build_239 : decode cL_build 239 = .ok (.invokestatic 12, 3) := by decide +kernel
theorem dL_build_242 : decode cL_build 242 = .ok (.iload 5, 2) := by decide +kernel
theorem dL_build_244 : decode cL_build 244 = .ok (.ishr, 1) := by decide +kernel
theorem dL_build_245 : decode cL_build 245 = .ok (.istore 8, 2) := by decide +kernel
theorem dL_build_247 : decode cL_build 247 = .ok (.bipush 9, 2) := by decide +kernel
theorem dL_build_249 : decode cL_build 249 = .ok (.newarray .int, 2) := by decide +kernel
theorem dL_build_251 : decode cL_build 251 = .ok (.dup, 1) := by decide +kernel
theorem dL_build_252 : decode cL_build 252 = .ok (.iconst 0, 1) := by decide +kernel
theorem dL_build_253 : decode cL_build 253 = .ok (.iload 8, 2) := by decide +kernel
theorem dL_build_255 : decode cL_build 255 = .ok (.aload_n 2, 1) := by decide +kernel
theorem dL_build_256 : decode cL_build 256 = .ok (.getfield 22, 3) := by decide +kernel
theorem dL_build_259 : decode cL_build 259 = .ok (.iload 5, 2) := by decide +kernel
theorem dL_build_261 : decode cL_build 261 = .ok (.iaload, 1) := by decide +kernel
theorem dL_build_262 : decode cL_build 262 = .ok (.invokestatic 18, 3) := by decide +kernel
theorem dL_build_265 : decode cL_build 265 = .ok (.iastore, 1) := by decide +kernel
theorem dL_build_266 : decode cL_build 266 = .ok (.dup, 1) := by decide +kernel
theorem dL_build_267 : decode cL_build 267 = .ok (.iconst 1, 1) := by decide +kernel
theorem dL_build_268 : decode cL_build 268 = .ok (.iload 8, 2) := by decide +kernel
theorem dL_build_270 : decode cL_build 270 = .ok (.iconst 2, 1) := by decide +kernel
theorem dL_build_271 : decode cL_build 271 = .ok (.ishr, 1) := by decide +kernel
theorem dL_build_272 : decode cL_build 272 = .ok (.aload_n 2, 1) := by decide +kernel
theorem dL_build_273 : decode cL_build 273 = .ok (.getfield 22, 3) := by decide +kernel
theorem dL_build_276 : decode cL_build 276 = .ok (.iload 5, 2) := by decide +kernel
theorem dL_build_278 : decode cL_build 278 = .ok (.iaload, 1) := by decide +kernel
theorem dL_build_279 : decode cL_build 279 = .ok (.invokestatic 18, 3) := by decide +kernel
theorem dL_build_282 : decode cL_build 282 = .ok (.iastore, 1) := by decide +kernel
theorem dL_build_283 : decode cL_build 283 = .ok (.dup, 1) := by decide +kernel
theorem dL_build_284 : decode cL_build 284 = .ok (.iconst 2, 1) := by decide +kernel
theorem dL_build_285 : decode cL_build 285 = .ok (.iload 8, 2) := by decide +kernel
theorem dL_build_287 : decode cL_build 287 = .ok (.iconst 4, 1) := by decide +kernel
theorem dL_build_288 : decode cL_build 288 = .ok (.ishr, 1) := by decide +kernel
theorem dL_build_289 : decode cL_build 289 = .ok (.iconst 3, 1) := by decide +kernel
theorem dL_build_290 : decode cL_build 290 = .ok (.invokestatic 18, 3) := by decide +kernel
theorem dL_build_293 : decode cL_build 293 = .ok (.ifCond .ne 17, 3) := by decide +kernel
theorem dL_build_296 : decode cL_build 296 = .ok (.iconst 1, 1) := by decide +kernel
theorem dL_build_297 : decode cL_build 297 = .ok (.iload 8, 2) := by decide +kernel
theorem dL_build_299 : decode cL_build 299 = .ok (.bipush 6, 2) := by decide +kernel
theorem dL_build_301 : decode cL_build 301 = .ok (.ishr, 1) := by decide +kernel
theorem dL_build_302 : decode cL_build 302 = .ok (.iconst 2, 1) := by decide +kernel
theorem dL_build_303 : decode cL_build 303 = .ok (.invokestatic 18, 3) := by decide +kernel
theorem dL_build_306 : decode cL_build 306 = .ok (.iadd, 1) := by decide +kernel
theorem dL_build_307 : decode cL_build 307 = .ok (.goto 4, 3) := by decide +kernel
theorem dL_build_310 : decode cL_build 310 = .ok (.iconst 0, 1) := by decide +kernel
theorem dL_build_311 : decode cL_build 311 = .ok (.iastore, 1) := by decide +kernel
theorem dL_build_312 : decode cL_build 312 = .ok (.dup, 1) := by decide +kernel
theorem dL_build_313 : decode cL_build 313 = .ok (.iconst 3, 1) := by decide +kernel
theorem dL_build_314 : decode cL_build 314 = .ok (.iconst 0, 1) := by decide +kernel
theorem dL_build_315 : decode cL_build 315 = .ok (.iastore, 1) := by decide +kernel
theorem dL_build_316 : decode cL_build 316 = .ok (.dup, 1) := by decide +kernel
theorem dL_build_317 : decode cL_build 317 = .ok (.iconst 4, 1) := by decide +kernel
theorem dL_build_318 : decode cL_build 318 = .ok (.iconst 0, 1) := by decide +kernel
theorem dL_build_319 : decode cL_build 319 = .ok (.iastore, 1) := by decide +kernel
theorem dL_build_320 : decode cL_build 320 = .ok (.dup, 1) := by decide +kernel
theorem dL_build_321 : decode cL_build 321 = .ok (.iconst 5, 1) := by decide +kernel
theorem dL_build_322 : decode cL_build 322 = .ok (.iconst 0, 1) := by decide +kernel
theorem dL_build_323 : decode cL_build 323 = .ok (.iastore, 1) := by decide +kernel
theorem dL_build_324 : decode cL_build 324 = .ok (.dup, 1) := by decide +kernel
theorem dL_build_325 : decode cL_build 325 = .ok (.bipush 6, 2) := by decide +kernel
theorem dL_build_327 : decode cL_build 327 = .ok (.iconst 0, 1) := by decide +kernel
theorem dL_build_328 : decode cL_build 328 = .ok (.iastore, 1) := by decide +kernel
theorem dL_build_329 : decode cL_build 329 = .ok (.dup, 1) := by decide +kernel
theorem dL_build_330 : decode cL_build 330 = .ok (.bipush 7, 2) := by decide +kernel
theorem dL_build_332 : decode cL_build 332 = .ok (.iconst 0, 1) := by decide +kernel
theorem dL_build_333 : decode cL_build 333 = .ok (.iastore, 1) := by decide +kernel
theorem dL_build_334 : decode cL_build 334 = .ok (.dup, 1) := by decide +kernel
theorem dL_build_335 : decode cL_build 335 = .ok (.bipush 8, 2) := by decide +kernel
theorem dL_build_337 : decode cL_build 337 = .ok (.iconst 0, 1) := by decide +kernel
theorem dL_build_338 : decode cL_build 338 = .ok (.iastore, 1) := by decide +kernel
theorem dL_build_339 : decode cL_build 339 = .ok (.astore 9, 2) := by decide +kernel
theorem dL_build_341 : decode cL_build 341 = .ok (.aload_n 0, 1) := by decide +kernel
theorem dL_build_342 : decode cL_build 342 = .ok (.iload 5, 2) := by decide +kernel
theorem dL_build_344 : decode cL_build 344 = .ok (.aload 9, 2) := by decide +kernel
theorem dL_build_346 : decode cL_build 346 = .ok (.iconst 0, 1) := by decide +kernel
theorem dL_build_347 : decode cL_build 347 = .ok (.iaload, 1) := by decide +kernel
theorem dL_build_348 : decode cL_build 348 = .ok (.aload 9, 2) := by decide +kernel
theorem dL_build_350 : decode cL_build 350 = .ok (.iconst 1, 1) := by decide +kernel
theorem dL_build_351 : decode cL_build 351 = .ok (.iaload, 1) := by decide +kernel
theorem dL_build_352 : decode cL_build 352 = .ok (.aload 9, 2) := by decide +kernel
theorem dL_build_354 : decode cL_build 354 = .ok (.iconst 2, 1) := by decide +kernel
theorem dL_build_355 : decode cL_build 355 = .ok (.iaload, 1) := by decide +kernel
theorem dL_build_356 : decode cL_build 356 = .ok (.invokevirtual 45, 3) := by decide +kernel
theorem dL_build_359 : decode cL_build 359 = .ok (.iload 7, 2) := by decide +kernel
theorem dL_build_361 : decode cL_build 361 = .ok (.if_icmp .eq 5, 3) := by decide +kernel
theorem dL_build_364 : decode cL_build 364 = .ok (.aconst_null, 1) := by decide +kernel
theorem dL_build_365 : decode cL_build 365 = .ok (.areturn, 1) := by decide +kernel
theorem dL_build_366 : decode cL_build 366 = .ok (.iload 4, 2) := by decide +kernel
theorem dL_build_368 : decode cL_build 368 = .ok (.ifCond .le 78, 3) := by decide +kernel
theorem dL_build_371 : decode cL_build 371 = .ok (.iload 8, 2) := by decide +kernel
theorem dL_build_373 : decode cL_build 373 = .ok (.iconst 3, 1) := by decide +kernel
theorem dL_build_374 : decode cL_build 374 = .ok (.ishr, 1) := by decide +kernel
theorem dL_build_375 : decode cL_build 375 = .ok (.iconst 2, 1) := by decide +kernel
theorem dL_build_376 : decode cL_build 376 = .ok (.invokestatic 18, 3) := by decide +kernel
theorem dL_build_379 : decode cL_build 379 = .ok (.ifCond .ne 67, 3) := by decide +kernel
theorem dL_build_382 : decode cL_build 382 = .ok (.aload 9, 2) := by decide +kernel
theorem dL_build_384 : decode cL_build 384 = .ok (.iconst 3, 1) := by decide +kernel
theorem dL_build_385 : decode cL_build 385 = .ok (.iload 8, 2) := by decide +kernel
theorem dL_build_387 : decode cL_build 387 = .ok (.iconst 5, 1) := by decide +kernel
theorem dL_build_388 : decode cL_build 388 = .ok (.ishr, 1) := by decide +kernel
theorem dL_build_389 : decode cL_build 389 = .ok (.iconst 5, 1) := by decide +kernel
theorem dL_build_390 : decode cL_build 390 = .ok (.invokestatic 18, 3) := by decide +kernel
theorem dL_build_393 : decode cL_build 393 = .ok (.iastore, 1) := by decide +kernel
theorem dL_build_394 : decode cL_build 394 = .ok (.aload 9, 2) := by decide +kernel
theorem dL_build_396 : decode cL_build 396 = .ok (.iconst 4, 1) := by decide +kernel
theorem dL_build_397 : decode cL_build 397 = .ok (.iload 8, 2) := by decide +kernel
theorem dL_build_399 : decode cL_build 399 = .ok (.bipush 7, 2) := by decide +kernel
theorem dL_build_401 : decode cL_build 401 = .ok (.ishr, 1) := by decide +kernel
theorem dL_build_402 : decode cL_build 402 = .ok (.iload 4, 2) := by decide +kernel
theorem dL_build_404 : decode cL_build 404 = .ok (.invokestatic 18, 3) := by decide +kernel
theorem dL_build_407 : decode cL_build 407 = .ok (.iastore, 1) := by decide +kernel
theorem dL_build_408 : decode cL_build 408 = .ok (.aload 9, 2) := by decide +kernel
theorem dL_build_410 : decode cL_build 410 = .ok (.iconst 5, 1) := by decide +kernel
theorem dL_build_411 : decode cL_build 411 = .ok (.iload 8, 2) := by decide +kernel
theorem dL_build_413 : decode cL_build 413 = .ok (.bipush 8, 2) := by decide +kernel
theorem dL_build_415 : decode cL_build 415 = .ok (.ishr, 1) := by decide +kernel
theorem dL_build_416 : decode cL_build 416 = .ok (.iconst 4, 1) := by decide +kernel
theorem dL_build_417 : decode cL_build 417 = .ok (.invokestatic 18, 3) := by decide +kernel
theorem dL_build_420 : decode cL_build 420 = .ok (.iastore, 1) := by decide +kernel
theorem dL_build_421 : decode cL_build 421 = .ok (.aload_n 0, 1) := by decide +kernel
theorem dL_build_422 : decode cL_build 422 = .ok (.iload 5, 2) := by decide +kernel
theorem dL_build_424 : decode cL_build 424 = .ok (.iload 7, 2) := by decide +kernel
theorem dL_build_426 : decode cL_build 426 = .ok (.aload 9, 2) := by decide +kernel
theorem dL_build_428 : decode cL_build 428 = .ok (.iconst 3, 1) := by decide +kernel
theorem dL_build_429 : decode cL_build 429 = .ok (.iaload, 1) := by decide +kernel
theorem dL_build_430 : decode cL_build 430 = .ok (.aload 9, 2) := by decide +kernel
theorem dL_build_432 : decode cL_build 432 = .ok (.iconst 4, 1) := by decide +kernel
theorem dL_build_433 : decode cL_build 433 = .ok (.iaload, 1) := by decide +kernel
theorem dL_build_434 : decode cL_build 434 = .ok (.aload 9, 2) := by decide +kernel
theorem dL_build_436 : decode cL_build 436 = .ok (.iconst 5, 1) := by decide +kernel
theorem dL_build_437 : decode cL_build 437 = .ok (.iaload, 1) := by decide +kernel
theorem dL_build_438 : decode cL_build 438 = .ok (.invokevirtual 49, 3) := by decide +kernel
theorem dL_build_441 : decode cL_build 441 = .ok (.ifCond .eq 5, 3) := by decide +kernel
theorem dL_build_444 : decode cL_build 444 = .ok (.aconst_null, 1) := by decide +kernel
theorem dL_build_445 : decode cL_build 445 = .ok (.areturn, 1) := by decide +kernel
theorem dL_build_446 : decode cL_build 446 = .ok (.iload 4, 2) := by decide +kernel
theorem dL_build_448 : decode cL_build 448 = .ok (.ifCond .le 88, 3) := by decide +kernel
theorem dL_build_451 : decode cL_build 451 = .ok (.iload 8, 2) := by decide +kernel
theorem dL_build_453 : decode cL_build 453 = .ok (.bipush 6, 2) := by decide +kernel
theorem dL_build_455 : decode cL_build 455 = .ok (.ishr, 1) := by decide +kernel
theorem dL_build_456 : decode cL_build 456 = .ok (.iconst 2, 1) := by decide +kernel
theorem dL_build_457 : decode cL_build 457 = .ok (.invokestatic 18, 3) := by decide +kernel
theorem dL_build_460 : decode cL_build 460 = .ok (.ifCond .ne 76, 3) := by decide +kernel
theorem dL_build_463 : decode cL_build 463 = .ok (.aload 9, 2) := by decide +kernel
theorem dL_build_465 : decode cL_build 465 = .ok (.bipush 6, 2) := by decide +kernel
theorem dL_build_467 : decode cL_build 467 = .ok (.iload 8, 2) := by decide +kernel
theorem dL_build_469 : decode cL_build 469 = .ok (.bipush 8, 2) := by decide +kernel
theorem dL_build_471 : decode cL_build 471 = .ok (.ishr, 1) := by decide +kernel
theorem dL_build_472 : decode cL_build 472 = .ok (.iconst 3, 1) := by decide +kernel
theorem dL_build_473 : decode cL_build 473 = .ok (.invokestatic 18, 3) := by decide +kernel
theorem dL_build_476 : decode cL_build 476 = .ok (.iastore, 1) := by decide +kernel
theorem dL_build_477 : decode cL_build 477 = .ok (.aload 9, 2) := by decide +kernel
theorem dL_build_479 : decode cL_build 479 = .ok (.bipush 7, 2) := by decide +kernel
theorem dL_build_481 : decode cL_build 481 = .ok (.iload 8, 2) := by decide +kernel
theorem dL_build_483 : decode cL_build 483 = .ok (.bipush 9, 2) := by decide +kernel
theorem dL_build_485 : decode cL_build 485 = .ok (.ishr, 1) := by decide +kernel
theorem dL_build_486 : decode cL_build 486 = .ok (.iload 4, 2) := by decide +kernel
theorem dL_build_488 : decode cL_build 488 = .ok (.invokestatic 18, 3) := by decide +kernel
theorem dL_build_491 : decode cL_build 491 = .ok (.iastore, 1) := by decide +kernel
theorem dL_build_492 : decode cL_build 492 = .ok (.aload 9, 2) := by decide +kernel
theorem dL_build_494 : decode cL_build 494 = .ok (.bipush 8, 2) := by decide +kernel
theorem dL_build_496 : decode cL_build 496 = .ok (.iload 8, 2) := by decide +kernel
theorem dL_build_498 : decode cL_build 498 = .ok (.bipush 7, 2) := by decide +kernel
theorem dL_build_500 : decode cL_build 500 = .ok (.ishr, 1) := by decide +kernel
theorem dL_build_501 : decode cL_build 501 = .ok (.iconst 4, 1) := by decide +kernel
theorem dL_build_502 : decode cL_build 502 = .ok (.invokestatic 18, 3) := by decide +kernel
theorem dL_build_505 : decode cL_build 505 = .ok (.iconst 1, 1) := by decide +kernel
theorem dL_build_506 : decode cL_build 506 = .ok (.isub, 1) := by decide +kernel
theorem dL_build_507 : decode cL_build 507 = .ok (.iastore, 1) := by decide +kernel
theorem dL_build_508 : decode cL_build 508 = .ok (.aload_n 0, 1) := by decide +kernel
theorem dL_build_509 : decode cL_build 509 = .ok (.iload 5, 2) := by decide +kernel
theorem dL_build_511 : decode cL_build 511 = .ok (.iload 7, 2) := by decide +kernel
theorem dL_build_513 : decode cL_build 513 = .ok (.aload 9, 2) := by decide +kernel
theorem dL_build_515 : decode cL_build 515 = .ok (.bipush 6, 2) := by decide +kernel
theorem dL_build_517 : decode cL_build 517 = .ok (.iaload, 1) := by decide +kernel
theorem dL_build_518 : decode cL_build 518 = .ok (.aload 9, 2) := by decide +kernel
theorem dL_build_520 : decode cL_build 520 = .ok (.bipush 7, 2) := by decide +kernel
theorem dL_build_522 : decode cL_build 522 = .ok (.iaload, 1) := by decide +kernel
theorem dL_build_523 : decode cL_build 523 = .ok (.aload 9, 2) := by decide +kernel
theorem dL_build_525 : decode cL_build 525 = .ok (.bipush 8, 2) := by decide +kernel
theorem dL_build_527 : decode cL_build 527 = .ok (.iaload, 1) := by decide +kernel
theorem dL_build_528 : decode cL_build 528 = .ok (.invokevirtual 53, 3) := by decide +kernel
theorem dL_build_531 : decode cL_build 531 = .ok (.ifCond .eq 5, 3) := by decide +kernel
theorem dL_build_534 : decode cL_build 534 = .ok (.aconst_null, 1) := by decide +kernel
theorem dL_build_535 : decode cL_build 535 = .ok (.areturn, 1) := by decide +kernel
theorem dL_build_536 : decode cL_build 536 = .ok (.aload_n 2, 1) := by decide +kernel
theorem dL_build_537 : decode cL_build 537 = .ok (.getfield 56, 3) := by decide +kernel
theorem dL_build_540 : decode cL_build 540 = .ok (.iload 5, 2) := by decide +kernel
theorem dL_build_542 : decode cL_build 542 = .ok (.aload_n 2, 1) := by decide +kernel
theorem dL_build_543 : decode cL_build 543 = .ok (.getfield 56, 3) := by decide +kernel
theorem dL_build_546 : decode cL_build 546 = .ok (.iload 5, 2) := by decide +kernel
theorem dL_build_548 : decode cL_build 548 = .ok (.aaload, 1) := by decide +kernel
theorem dL_build_549 : decode cL_build 549 = .ok (.aload 9, 2) := by decide +kernel
theorem dL_build_551 : decode cL_build 551 = .ok (.invokestatic 60, 3) := by decide +kernel
theorem dL_build_554 : decode cL_build 554 = .ok (.aastore, 1) := by decide +kernel
theorem dL_build_555 : decode cL_build 555 = .ok (.iinc 7 1, 3) := by decide +kernel
theorem dL_build_558 : decode cL_build 558 = .ok (.goto (-339), 3) := by decide +kernel
theorem dL_build_561 : decode cL_build 561 = .ok (.iinc 5 1, 3) := by decide +kernel
theorem dL_build_564 : decode cL_build 564 = .ok (.goto (-373), 3) := by decide +kernel
theorem dL_build_567 : decode cL_build 567 = .ok (.aload_n 2, 1) := by decide +kernel
theorem dL_build_568 : decode cL_build 568 = .ok (.areturn, 1) := by decide +kernel
theorem dL_facts_0 : decode cL_facts 0 = .ok (.aload_n 1, 1) := by decide +kernel
theorem dL_facts_1 : decode cL_facts 1 = .ok (.getfield 63, 3) := by decide +kernel
theorem dL_facts_4 : decode cL_facts 4 = .ok (.arraylength, 1) := by decide +kernel
theorem dL_facts_5 : decode cL_facts 5 = .ok (.istore 4, 2) := by decide +kernel
theorem dL_facts_7 : decode cL_facts 7 = .ok (.bipush 8, 2) := by decide +kernel
theorem dL_facts_9 : decode cL_facts 9 = .ok (.iload 4, 2) := by decide +kernel
theorem dL_facts_11 : decode cL_facts 11 = .ok (.multianewarray 67 2, 4) := by decide +kernel
theorem dL_facts_15 : decode cL_facts 15 = .ok (.astore 5, 2) := by decide +kernel
theorem dL_facts_17 : decode cL_facts 17 = .ok (.iconst 0, 1) := by decide +kernel
theorem dL_facts_18 : decode cL_facts 18 = .ok (.istore 6, 2) := by decide +kernel
theorem dL_facts_20 : decode cL_facts 20 = .ok (.iload 6, 2) := by decide +kernel
theorem dL_facts_22 : decode cL_facts 22 = .ok (.bipush 8, 2) := by decide +kernel
theorem dL_facts_24 : decode cL_facts 24 = .ok (.if_icmp .ge 422, 3) := by decide +kernel
theorem dL_facts_27 : decode cL_facts 27 = .ok (.aload_n 2, 1) := by decide +kernel
theorem dL_facts_28 : decode cL_facts 28 = .ok (.iload_n 3, 1) := by decide +kernel
theorem dL_facts_29 : decode cL_facts 29 = .ok (.iload 6, 2) := by decide +kernel
theorem dL_facts_31 : decode cL_facts 31 = .ok (.iadd, 1) := by decide +kernel
theorem dL_facts_32 : decode cL_facts 32 = .ok (.invokestatic 12, 3) := by decide +kernel
theorem dL_facts_35 : decode cL_facts 35 = .ok (.istore 7, 2) := by decide +kernel
theorem dL_facts_37 : decode cL_facts 37 = .ok (.iload 6, 2) := by decide +kernel
theorem dL_facts_39 : decode cL_facts 39 = .ok (.ifCond .eq 17, 3) := by decide +kernel
theorem dL_facts_42 : decode cL_facts 42 = .ok (.aload_n 1, 1) := by decide +kernel
theorem dL_facts_43 : decode cL_facts 43 = .ok (.getfield 36, 3) := by decide +kernel
theorem dL_facts_46 : decode cL_facts 46 = .ok (.arraylength, 1) := by decide +kernel
theorem dL_facts_47 : decode cL_facts 47 = .ok (.ifCond .ne 13, 3) := by decide +kernel
theorem dL_facts_50 : decode cL_facts 50 = .ok (.iload 6, 2) := by decide +kernel
theorem dL_facts_52 : decode cL_facts 52 = .ok (.iconst 3, 1) := by decide +kernel
theorem dL_facts_53 : decode cL_facts 53 = .ok (.if_icmp .ge 7, 3) := by decide +kernel
theorem dL_facts_56 : decode cL_facts 56 = .ok (.iconst 0, 1) := by decide +kernel
theorem dL_facts_57 : decode cL_facts 57 = .ok (.goto 25, 3) := by decide +kernel
theorem dL_facts_60 : decode cL_facts 60 = .ok (.iload 6, 2) := by decide +kernel
theorem dL_facts_62 : decode cL_facts 62 = .ok (.iconst 3, 1) := by decide +kernel
theorem dL_facts_63 : decode cL_facts 63 = .ok (.if_icmp .ge 12, 3) := by decide +kernel
theorem dL_facts_66 : decode cL_facts 66 = .ok (.iload 7, 2) := by decide +kernel
theorem dL_facts_68 : decode cL_facts 68 = .ok (.iconst 3, 1) := by decide +kernel
theorem dL_facts_69 : decode cL_facts 69 = .ok (.invokestatic 18, 3) := by decide +kernel
theorem dL_facts_72 : decode cL_facts 72 = .ok (.goto 10, 3) := by decide +kernel
theorem dL_facts_75 : decode cL_facts 75 = .ok (.iload 7, 2) := by decide +kernel
theorem dL_facts_77 : decode cL_facts 77 = .ok (.bipush 6, 2) := by decide +kernel
theorem dL_facts_79 : decode cL_facts 79 = .ok (.invokestatic 18, 3) := by decide +kernel
theorem dL_facts_82 : decode cL_facts 82 = .ok (.istore 8, 2) := by decide +kernel
theorem dL_facts_84 : decode cL_facts 84 = .ok (.aload_n 1, 1) := by decide +kernel
theorem dL_facts_85 : decode cL_facts 85 = .ok (.getfield 36, 3) := by decide +kernel
theorem dL_facts_88 : decode cL_facts 88 = .ok (.arraylength, 1) := by decide +kernel
theorem dL_facts_89 : decode cL_facts 89 = .ok (.ifCond .ne 18, 3) := by decide +kernel
theorem dL_facts_92 : decode cL_facts 92 = .ok (.iload 8, 2) := by decide +kernel
theorem dL_facts_94 : decode cL_facts 94 = .ok (.iconst 1, 1) := by decide +kernel
theorem dL_facts_95 : decode cL_facts 95 = .ok (.if_icmp .eq 9, 3) := by decide +kernel
theorem dL_facts_98 : decode cL_facts 98 = .ok (.iload 8, 2) := by decide +kernel
theorem dL_facts_100 : decode cL_facts 100 = .ok (.iconst 2, 1) := by decide +kernel
theorem dL_facts_101 : decode cL_facts 101 = .ok (.if_icmp .ne 6, 3) := by decide +kernel
theorem dL_facts_104 : decode cL_facts 104 = .ok (.iconst 0, 1) := by decide +kernel
theorem dL_facts_105 : decode cL_facts 105 = .ok (.istore 8, 2) := by decide +kernel
theorem dL_facts_107 : decode cL_facts 107 = .ok (.iload 8, 2) := by decide +kernel
theorem dL_facts_109 : decode cL_facts 109 = .ok (.ifCond .ne 18, 3) := by decide +kernel
theorem dL_facts_112 : decode cL_facts 112 = .ok (.iload 7, 2) := by decide +kernel
theorem dL_facts_114 : decode cL_facts 114 = .ok (.iconst 3, 1) := by decide +kernel
theorem dL_facts_115 : decode cL_facts 115 = .ok (.ishr, 1) := by decide +kernel
theorem dL_facts_116 : decode cL_facts 116 = .ok (.aload_n 1, 1) := by decide +kernel
theorem dL_facts_117 : decode cL_facts 117 = .ok (.getfield 22, 3) := by decide +kernel
theorem dL_facts_120 : decode cL_facts 120 = .ok (.arraylength, 1) := by decide +kernel
theorem dL_facts_121 : decode cL_facts 121 = .ok (.invokestatic 18, 3) := by decide +kernel
theorem dL_facts_124 : decode cL_facts 124 = .ok (.goto 33, 3) := by decide +kernel
theorem dL_facts_127 : decode cL_facts 127 = .ok (.iload 8, 2) := by decide +kernel
theorem dL_facts_129 : decode cL_facts 129 = .ok (.iconst 3, 1) := by decide +kernel
theorem dL_facts_130 : decode cL_facts 130 = .ok (.if_icmp .ge 18, 3) := by decide +kernel
theorem dL_facts_133 : decode cL_facts 133 = .ok (.iload 7, 2) := by decide +kernel
theorem dL_facts_135 : decode cL_facts 135 = .ok (.iconst 3, 1) := by decide +kernel
theorem dL_facts_136 : decode cL_facts 136 = .ok (.ishr, 1) := by decide +kernel
theorem dL_facts_137 : decode cL_facts 137 = .ok (.aload_n 1, 1) := by decide +kernel
theorem dL_facts_138 : decode cL_facts 138 = .ok (.getfield 36, 3) := by decide +kernel
theorem dL_facts_141 : decode cL_facts 141 = .ok (.arraylength, 1) := by decide +kernel
theorem dL_facts_142 : decode cL_facts 142 = .ok (.invokestatic 18, 3) := by decide +kernel
theorem dL_facts_145 : decode cL_facts 145 = .ok (.goto 12, 3) := by decide +kernel
theorem dL_facts_148 : decode cL_facts 148 = .ok (.iload 7, 2) := by decide +kernel
theorem dL_facts_150 : decode cL_facts 150 = .ok (.iconst 3, 1) := by decide +kernel
theorem dL_facts_151 : decode cL_facts 151 = .ok (.ishr, 1) := by decide +kernel
theorem dL_facts_152 : decode cL_facts 152 = .ok (.iload 6, 2) := by decide +kernel
theorem dL_facts_154 : decode cL_facts 154 = .ok (.invokestatic 18, 3) := by decide +kernel
theorem dL_facts_157 : decode cL_facts 157 = .ok (.istore 9, 2) := by decide +kernel
theorem dL_facts_159 : decode cL_facts 159 = .ok (.iload 8, 2) := by decide +kernel
theorem dL_facts_161 : decode cL_facts 161 = .ok (.ifCond .ne 20, 3) := by decide +kernel
theorem dL_facts_164 : decode cL_facts 164 = .ok (.iload 7, 2) := by decide +kernel
theorem dL_facts_166 : decode cL_facts 166 = .ok (.iconst 5, 1) := by decide +kernel
theorem dL_facts_167 : decode cL_facts 167 = .ok (.ishr, 1) := by decide +kernel
theorem dL_facts_168 : decode cL_facts 168 = .ok (.aload_n 1, 1) := by decide +kernel
theorem dL_facts_169 : decode cL_facts 169 = .ok (.getfield 22, 3) := by decide +kernel
theorem dL_facts_172 : decode cL_facts 172 = .ok (.iload 9, 2) := by decide +kernel
theorem dL_facts_174 : decode cL_facts 174 = .ok (.iaload, 1) := by decide +kernel
theorem dL_facts_175 : decode cL_facts 175 = .ok (.invokestatic 18, 3) := by decide +kernel
theorem dL_facts_178 : decode cL_facts 178 = .ok (.goto 39, 3) := by decide +kernel
theorem dL_facts_181 : decode cL_facts 181 = .ok (.iload 8, 2) := by decide +kernel
theorem dL_facts_183 : decode cL_facts 183 = .ok (.iconst 3, 1) := by decide +kernel
theorem dL_facts_184 : decode cL_facts 184 = .ok (.if_icmp .ge 14, 3) := by decide +kernel
theorem dL_facts_187 : decode cL_facts 187 = .ok (.iload 7, 2) := by decide +kernel
theorem dL_facts_189 : decode cL_facts 189 = .ok (.iconst 5, 1) := by decide +kernel
theorem dL_facts_190 : decode cL_facts 190 = .ok (.ishr, 1) := by decide +kernel
theorem dL_facts_191 : decode cL_facts 191 = .ok (.iconst 4, 1) := by decide +kernel
theorem dL_facts_192 : decode cL_facts 192 = .ok (.invokestatic 18, 3) := by decide +kernel
theorem dL_facts_195 : decode cL_facts 195 = .ok (.goto 22, 3) := by decide +kernel
theorem dL_facts_198 : decode cL_facts 198 = .ok (.iload 8, 2) := by decide +kernel
theorem dL_facts_200 : decode cL_facts 200 = .ok (.iconst 3, 1) := by decide +kernel
theorem dL_facts_201 : decode cL_facts 201 = .ok (.if_icmp .ne 7, 3) := by decide +kernel
theorem dL_facts_204 : decode cL_facts 204 = .ok (.iconst 0, 1) := by decide +kernel
theorem dL_facts_205 : decode cL_facts 205 = .ok (.goto 12, 3) := by decide +kernel
theorem dL_facts_208 : decode cL_facts 208 = .ok (.iload 7, 2) := by decide +kernel
theorem dL_facts_210 : decode cL_facts 210 = .ok (.iconst 5, 1) := by decide +kernel
theorem dL_facts_211 : decode cL_facts 211 = .ok (.ishr, 1) := by decide +kernel
theorem dL_facts_212 : decode cL_facts 212 = .ok (.iload 6, 2) := by decide +kernel
theorem dL_facts_214 : decode cL_facts 214 = .ok (.invokestatic 18, 3) := by decide +kernel
theorem dL_facts_217 : decode cL_facts 217 = .ok (.istore 10, 2) := by decide +kernel
theorem dL_facts_219 : decode cL_facts 219 = .ok (.aload_n 0, 1) := by decide +kernel
theorem dL_facts_220 : decode cL_facts 220 = .ok (.iload 8, 2) := by decide +kernel
theorem dL_facts_222 : decode cL_facts 222 = .ok (.iload 9, 2) := by decide +kernel
theorem dL_facts_224 : decode cL_facts 224 = .ok (.iload 10, 2) := by decide +kernel
theorem dL_facts_226 : decode cL_facts 226 = .ok (.invokevirtual 69, 3) := by decide +kernel
theorem dL_facts_229 : decode cL_facts 229 = .ok (.iload 6, 2) := by decide +kernel
theorem dL_facts_231 : decode cL_facts 231 = .ok (.if_icmp .eq 5, 3) := by decide +kernel
theorem dL_facts_234 : decode cL_facts 234 = .ok (.aconst_null, 1) := by decide +kernel
theorem dL_facts_235 : decode cL_facts 235 = .ok (.areturn, 1) := by decide +kernel
theorem dL_facts_236 : decode cL_facts 236 = .ok (.iconst 0, 1) := by decide +kernel
theorem dL_facts_237 : decode cL_facts 237 = .ok (.istore 11, 2) := by decide +kernel
theorem dL_facts_239 : decode cL_facts 239 = .ok (.iload 11, 2) := by decide +kernel
theorem dL_facts_241 : decode cL_facts 241 = .ok (.iload 4, 2) := by decide +kernel
theorem dL_facts_243 : decode cL_facts 243 = .ok (.if_icmp .ge 197, 3) := by decide +kernel
theorem dL_facts_246 : decode cL_facts 246 = .ok (.aload_n 1, 1) := by decide +kernel
theorem dL_facts_247 : decode cL_facts 247 = .ok (.getfield 63, 3) := by decide +kernel
theorem dL_facts_250 : decode cL_facts 250 = .ok (.iload 11, 2) := by decide +kernel
theorem dL_facts_252 : decode cL_facts 252 = .ok (.aaload, 1) := by decide +kernel
theorem dL_facts_253 : decode cL_facts 253 = .ok (.astore 12, 2) := by decide +kernel
theorem dL_facts_255 : decode cL_facts 255 = .ok (.aload 5, 2) := by decide +kernel
theorem dL_facts_257 : decode cL_facts 257 = .ok (.iload 6, 2) := by decide +kernel
theorem dL_facts_259 : decode cL_facts 259 = .ok (.aaload, 1) := by decide +kernel
theorem dL_facts_260 : decode cL_facts 260 = .ok (.iload 11, 2) := by decide +kernel
theorem dL_facts_262 : decode cL_facts 262 = .ok (.iload 8, 2) := by decide +kernel
theorem dL_facts_264 : decode cL_facts 264 = .ok (.ifCond .ne 21, 3) := by decide +kernel
theorem dL_facts_267 : decode cL_facts 267 = .ok (.aload 12, 2) := by decide +kernel
theorem dL_facts_269 : decode cL_facts 269 = .ok (.iload 9, 2) := by decide +kernel
theorem dL_facts_271 : decode cL_facts 271 = .ok (.iaload, 1) := by decide +kernel
theorem dL_facts_272 : decode cL_facts 272 = .ok (.iload 10, 2) := by decide +kernel
theorem dL_facts_274 : decode cL_facts 274 = .ok (.if_icmp .ne 7, 3) := by decide +kernel
theorem dL_facts_277 : decode cL_facts 277 = .ok (.iconst 1, 1) := by decide +kernel
theorem dL_facts_278 : decode cL_facts 278 = .ok (.goto 155, 3) := by decide +kernel
theorem dL_facts_281 : decode cL_facts 281 = .ok (.iconst 0, 1) := by decide +kernel
theorem dL_facts_282 : decode cL_facts 282 = .ok (.goto 151, 3) := by decide +kernel
theorem dL_facts_285 : decode cL_facts 285 = .ok (.iload 8, 2) := by decide +kernel
theorem dL_facts_287 : decode cL_facts 287 = .ok (.iconst 1, 1) := by decide +kernel
theorem dL_facts_288 : decode cL_facts 288 = .ok (.if_icmp .ne 27, 3) := by decide +kernel
theorem dL_facts_291 : decode cL_facts 291 = .ok (.aload 12, 2) := by decide +kernel
theorem dL_facts_293 : decode cL_facts 293 = .ok (.aload_n 1, 1) := by decide +kernel
theorem dL_facts_294 : decode cL_facts 294 = .ok (.getfield 22, 3) := by decide +kernel
theorem dL_facts_297 : decode cL_facts 297 = .ok (.arraylength, 1) := by decide +kernel
theorem dL_facts_298 : decode cL_facts 298 = .ok (.iload 9, 2) := by decide +kernel
theorem dL_facts_300 : decode cL_facts 300 = .ok (.iadd, 1) := by decide +kernel
theorem dL_facts_301 : decode cL_facts 301 = .ok (.iaload, 1) := by decide +kernel
theorem dL_facts_302 : decode cL_facts 302 = .ok (.iload 10, 2) := by decide +kernel
theorem dL_facts_304 : decode cL_facts 304 = .ok (.if_icmp .ne 7, 3) := by decide +kernel
theorem dL_facts_307 : decode cL_facts 307 = .ok (.iconst 1, 1) := by decide +kernel
theorem dL_facts_308 : decode cL_facts 308 = .ok (.goto 125, 3) := by decide +kernel
theorem dL_facts_311 : decode cL_facts 311 = .ok (.iconst 0, 1) := by decide +kernel
theorem dL_facts_312 : decode cL_facts 312 = .ok (.goto 121, 3) := by decide +kernel
theorem dL_facts_315 : decode cL_facts 315 = .ok (.iload 8, 2) := by decide +kernel
theorem dL_facts_317 : decode cL_facts 317 = .ok (.iconst 2, 1) := by decide +kernel
theorem dL_facts_318 : decode cL_facts 318 = .ok (.if_icmp .ne 27, 3) := by decide +kernel
theorem dL_facts_321 : decode cL_facts 321 = .ok (.aload 12, 2) := by decide +kernel
theorem dL_facts_323 : decode cL_facts 323 = .ok (.aload_n 1, 1) := by decide +kernel
theorem dL_facts_324 : decode cL_facts 324 = .ok (.getfield 22, 3) := by decide +kernel
theorem dL_facts_327 : decode cL_facts 327 = .ok (.arraylength, 1) := by decide +kernel
theorem dL_facts_328 : decode cL_facts 328 = .ok (.iload 9, 2) := by decide +kernel
theorem dL_facts_330 : decode cL_facts 330 = .ok (.iadd, 1) := by decide +kernel
theorem dL_facts_331 : decode cL_facts 331 = .ok (.iaload, 1) := by decide +kernel
theorem dL_facts_332 : decode cL_facts 332 = .ok (.iload 10, 2) := by decide +kernel
theorem dL_facts_334 : decode cL_facts 334 = .ok (.if_icmp .gt 7, 3) := by decide +kernel
theorem dL_facts_337 : decode cL_facts 337 = .ok (.iconst 1, 1) := by decide +kernel
theorem dL_facts_338 : decode cL_facts 338 = .ok (.goto 95, 3) := by decide +kernel
theorem dL_facts_341 : decode cL_facts 341 = .ok (.iconst 0, 1) := by decide +kernel
theorem dL_facts_342 : decode cL_facts 342 = .ok (.goto 91, 3) := by decide +kernel
theorem dL_facts_345 : decode cL_facts 345 = .ok (.iload 8, 2) := by decide +kernel
theorem dL_facts_347 : decode cL_facts 347 = .ok (.iconst 3, 1) := by decide +kernel
theorem dL_facts_348 : decode cL_facts 348 = .ok (.if_icmp .ne 22, 3) := by decide +kernel
theorem dL_facts_351 : decode cL_facts 351 = .ok (.aload 5, 2) := by decide +kernel
theorem dL_facts_353 : decode cL_facts 353 = .ok (.iload 9, 2) := by decide +kernel
theorem dL_facts_355 : decode cL_facts 355 = .ok (.aaload, 1) := by decide +kernel
theorem dL_facts_356 : decode cL_facts 356 = .ok (.iload 11, 2) := by decide +kernel
theorem dL_facts_358 : decode cL_facts 358 = .ok (.baload, 1) := by decide +kernel
theorem dL_facts_359 : decode cL_facts 359 = .ok (.ifCond .ne 7, 3) := by decide +kernel
theorem dL_facts_362 : decode cL_facts 362 = .ok (.iconst 1, 1) := by decide +kernel
theorem dL_facts_363 : decode cL_facts 363 = .ok (.goto 70, 3) := by decide +kernel
theorem dL_facts_366 : decode cL_facts 366 = .ok (.iconst 0, 1) := by decide +kernel
theorem dL_facts_367 : decode cL_facts 367 = .ok (.goto 66, 3) := by decide +kernel
theorem dL_facts_370 : decode cL_facts 370 = .ok (.iload 8, 2) := by decide +kernel
theorem dL_facts_372 : decode cL_facts 372 = .ok (.iconst 4, 1) := by decide +kernel
theorem dL_facts_373 : decode cL_facts 373 = .ok (.if_icmp .ne 33, 3) := by decide +kernel
theorem dL_facts_376 : decode cL_facts 376 = .ok (.aload 5, 2) := by decide +kernel
theorem dL_facts_378 : decode cL_facts 378 = .ok (.iload 9, 2) := by decide +kernel
theorem dL_facts_380 : decode cL_facts 380 = .ok (.aaload, 1) := by decide +kernel
theorem dL_facts_381 : decode cL_facts 381 = .ok (.iload 11, 2) := by decide +kernel
theorem dL_facts_383 : decode cL_facts 383 = .ok (.baload, 1) := by decide +kernel
theorem dL_facts_384 : decode cL_facts 384 = .ok (.ifCond .eq 18, 3) := by decide +kernel
theorem dL_facts_387 : decode cL_facts 387 = .ok (.aload 5, 2) := by decide +kernel
theorem dL_facts_389 : decode cL_facts 389 = .ok (.iload 10, 2) := by decide +kernel
theorem dL_facts_391 : decode cL_facts 391 = .ok (.aaload, 1) := by decide +kernel
theorem dL_facts_392 : decode cL_facts 392 = .ok (.iload 11, 2) := by decide +kernel
theorem dL_facts_394 : decode cL_facts 394 = .ok (.baload, 1) := by decide +kernel
theorem dL_facts_395 : decode cL_facts 395 = .ok (.ifCond .eq 7, 3) := by decide +kernel
theorem dL_facts_398 : decode cL_facts 398 = .ok (.iconst 1, 1) := by decide +kernel
theorem dL_facts_399 : decode cL_facts 399 = .ok (.goto 34, 3) := by decide +kernel
theorem dL_facts_402 : decode cL_facts 402 = .ok (.iconst 0, 1) := by decide +kernel
theorem dL_facts_403 : decode cL_facts 403 = .ok (.goto 30, 3) := by decide +kernel
theorem dL_facts_406 : decode cL_facts 406 = .ok (.aload 5, 2) := by decide +kernel
theorem dL_facts_408 : decode cL_facts 408 = .ok (.iload 9, 2) := by decide +kernel
theorem dL_facts_410 : decode cL_facts 410 = .ok (.aaload, 1) := by decide +kernel
theorem dL_facts_411 : decode cL_facts 411 = .ok (.iload 11, 2) := by decide +kernel
theorem dL_facts_413 : decode cL_facts 413 = .ok (.baload, 1) := by decide +kernel
theorem dL_facts_414 : decode cL_facts 414 = .ok (.ifCond .ne 14, 3) := by decide +kernel
theorem dL_facts_417 : decode cL_facts 417 = .ok (.aload 5, 2) := by decide +kernel
theorem dL_facts_419 : decode cL_facts 419 = .ok (.iload 10, 2) := by decide +kernel
theorem dL_facts_421 : decode cL_facts 421 = .ok (.aaload, 1) := by decide +kernel
theorem dL_facts_422 : decode cL_facts 422 = .ok (.iload 11, 2) := by decide +kernel
theorem dL_facts_424 : decode cL_facts 424 = .ok (.baload, 1) := by decide +kernel
theorem dL_facts_425 : decode cL_facts 425 = .ok (.ifCond .eq 7, 3) := by decide +kernel
theorem dL_facts_428 : decode cL_facts 428 = .ok (.iconst 1, 1) := by decide +kernel
theorem dL_facts_429 : decode cL_facts 429 = .ok (.goto 4, 3) := by decide +kernel
theorem dL_facts_432 : decode cL_facts 432 = .ok (.iconst 0, 1) := by decide +kernel
theorem dL_facts_433 : decode cL_facts 433 = .ok (.bastore, 1) := by decide +kernel
theorem dL_facts_434 : decode cL_facts 434 = .ok (.iinc 11 1, 3) := by decide +kernel
theorem dL_facts_437 : decode cL_facts 437 = .ok (.goto (-198), 3) := by decide +kernel
theorem dL_facts_440 : decode cL_facts 440 = .ok (.iinc 6 1, 3) := by decide +kernel
theorem dL_facts_443 : decode cL_facts 443 = .ok (.goto (-423), 3) := by decide +kernel
theorem dL_facts_446 : decode cL_facts 446 = .ok (.aload 5, 2) := by decide +kernel
theorem dL_facts_448 : decode cL_facts 448 = .ok (.areturn, 1) := by decide +kernel
theorem dL_law_0 : decode cL_law 0 = .ok (.new 31, 3) := by decide +kernel
theorem dL_law_3 : decode cL_law 3 = .ok (.dup, 1) := by decide +kernel
theorem dL_law_4 : decode cL_law 4 = .ok (.invokespecial 73, 3) := by decide +kernel
theorem dL_law_7 : decode cL_law 7 = .ok (.astore_n 1, 1) := by decide +kernel
theorem dL_law_8 : decode cL_law 8 = .ok (.aload_n 1, 1) := by decide +kernel
theorem dL_law_9 : decode cL_law 9 = .ok (.aload_n 0, 1) := by decide +kernel
theorem dL_law_10 : decode cL_law 10 = .ok (.invokestatic 74, 3) := by decide +kernel
theorem dL_law_13 : decode cL_law 13 = .ok (.astore_n 2, 1) := by decide +kernel
theorem dL_law_14 : decode cL_law 14 = .ok (.aload_n 2, 1) := by decide +kernel
theorem dL_law_15 : decode cL_law 15 = .ok (.ifnonnull 5, 3) := by decide +kernel
theorem dL_law_18 : decode cL_law 18 = .ok (.iconst 0, 1) := by decide +kernel
theorem dL_law_19 : decode cL_law 19 = .ok (.ireturn, 1) := by decide +kernel
theorem dL_law_20 : decode cL_law 20 = .ok (.aload_n 1, 1) := by decide +kernel
theorem dL_law_21 : decode cL_law 21 = .ok (.invokevirtual 78, 3) := by decide +kernel
theorem dL_law_24 : decode cL_law 24 = .ok (.istore_n 3, 1) := by decide +kernel
theorem dL_law_25 : decode cL_law 25 = .ok (.aload_n 2, 1) := by decide +kernel
theorem dL_law_26 : decode cL_law 26 = .ok (.sipush 400, 3) := by decide +kernel
theorem dL_law_29 : decode cL_law 29 = .ok (.invokevirtual 82, 3) := by decide +kernel
theorem dL_law_32 : decode cL_law 32 = .ok (.ifCond .ne 14, 3) := by decide +kernel
theorem dL_law_35 : decode cL_law 35 = .ok (.iload_n 3, 1) := by decide +kernel
theorem dL_law_36 : decode cL_law 36 = .ok (.iconst (-1), 1) := by decide +kernel
theorem dL_law_37 : decode cL_law 37 = .ok (.if_icmp .ne 7, 3) := by decide +kernel
theorem dL_law_40 : decode cL_law 40 = .ok (.iconst 1, 1) := by decide +kernel
theorem dL_law_41 : decode cL_law 41 = .ok (.goto 4, 3) := by decide +kernel
theorem dL_law_44 : decode cL_law 44 = .ok (.iconst 0, 1) := by decide +kernel
theorem dL_law_45 : decode cL_law 45 = .ok (.ireturn, 1) := by decide +kernel
theorem dL_law_46 : decode cL_law 46 = .ok (.aload_n 1, 1) := by decide +kernel
theorem dL_law_47 : decode cL_law 47 = .ok (.aload_n 2, 1) := by decide +kernel
theorem dL_law_48 : decode cL_law 48 = .ok (.aload_n 0, 1) := by decide +kernel
theorem dL_law_49 : decode cL_law 49 = .ok (.bipush 9, 2) := by decide +kernel
theorem dL_law_51 : decode cL_law 51 = .ok (.invokestatic 85, 3) := by decide +kernel
theorem dL_law_54 : decode cL_law 54 = .ok (.astore 4, 2) := by decide +kernel
theorem dL_law_56 : decode cL_law 56 = .ok (.aload 4, 2) := by decide +kernel
theorem dL_law_58 : decode cL_law 58 = .ok (.ifnull 12, 3) := by decide +kernel
theorem dL_law_61 : decode cL_law 61 = .ok (.iload_n 3, 1) := by decide +kernel
theorem dL_law_62 : decode cL_law 62 = .ok (.aload_n 2, 1) := by decide +kernel
theorem dL_law_63 : decode cL_law 63 = .ok (.getfield 63, 3) := by decide +kernel
theorem dL_law_66 : decode cL_law 66 = .ok (.arraylength, 1) := by decide +kernel
theorem dL_law_67 : decode cL_law 67 = .ok (.if_icmp .eq 5, 3) := by decide +kernel
theorem dL_law_70 : decode cL_law 70 = .ok (.iconst 0, 1) := by decide +kernel
theorem dL_law_71 : decode cL_law 71 = .ok (.ireturn, 1) := by decide +kernel
theorem dL_law_72 : decode cL_law 72 = .ok (.iconst 0, 1) := by decide +kernel
theorem dL_law_73 : decode cL_law 73 = .ok (.istore 5, 2) := by decide +kernel
theorem dL_law_75 : decode cL_law 75 = .ok (.iload 5, 2) := by decide +kernel
theorem dL_law_77 : decode cL_law 77 = .ok (.iload_n 3, 1) := by decide +kernel
theorem dL_law_78 : decode cL_law 78 = .ok (.if_icmp .ge 169, 3) := by decide +kernel
theorem dL_law_81 : decode cL_law 81 = .ok (.aload_n 1, 1) := by decide +kernel
theorem dL_law_82 : decode cL_law 82 = .ok (.iload 5, 2) := by decide +kernel
theorem dL_law_84 : decode cL_law 84 = .ok (.bipush 10, 2) := by decide +kernel
theorem dL_law_86 : decode cL_law 86 = .ok (.invokevirtual 89, 3) := by decide +kernel
theorem dL_law_89 : decode cL_law 89 = .ok (.istore 6, 2) := by decide +kernel
theorem dL_law_91 : decode cL_law 91 = .ok (.iconst 0, 1) := by decide +kernel
theorem dL_law_92 : decode cL_law 92 = .ok (.istore 7, 2) := by decide +kernel
theorem dL_law_94 : decode cL_law 94 = .ok (.iconst 0, 1) := by decide +kernel
theorem dL_law_95 : decode cL_law 95 = .ok (.istore 8, 2) := by decide +kernel
theorem dL_law_97 : decode cL_law 97 = .ok (.iload 8, 2) := by decide +kernel
theorem dL_law_99 : decode cL_law 99 = .ok (.iload 6, 2) := by decide +kernel
theorem dL_law_101 : decode cL_law 101 = .ok (.if_icmp .ge 56, 3) := by decide +kernel
theorem dL_law_104 : decode cL_law 104 = .ok (.aload_n 1, 1) := by decide +kernel
theorem dL_law_105 : decode cL_law 105 = .ok (.iload 5, 2) := by decide +kernel
theorem dL_law_107 : decode cL_law 107 = .ok (.iload 8, 2) := by decide +kernel
theorem dL_law_109 : decode cL_law 109 = .ok (.iconst 0, 1) := by decide +kernel
theorem dL_law_110 : decode cL_law 110 = .ok (.invokevirtual 92, 3) := by decide +kernel
theorem dL_law_113 : decode cL_law 113 = .ok (.iload 7, 2) := by decide +kernel
theorem dL_law_115 : decode cL_law 115 = .ok (.if_icmp .ne 16, 3) := by decide +kernel
theorem dL_law_118 : decode cL_law 118 = .ok (.aload_n 1, 1) := by decide +kernel
theorem dL_law_119 : decode cL_law 119 = .ok (.iload 7, 2) := by decide +kernel
theorem dL_law_121 : decode cL_law 121 = .ok (.bipush 10, 2) := by decide +kernel
theorem dL_law_123 : decode cL_law 123 = .ok (.invokevirtual 89, 3) := by decide +kernel
theorem dL_law_126 : decode cL_law 126 = .ok (.iload 8, 2) := by decide +kernel
theorem dL_law_128 : decode cL_law 128 = .ok (.if_icmp .eq 5, 3) := by decide +kernel
theorem dL_law_131 : decode cL_law 131 = .ok (.iconst 0, 1) := by decide +kernel
theorem dL_law_132 : decode cL_law 132 = .ok (.ireturn, 1) := by decide +kernel
theorem dL_law_133 : decode cL_law 133 = .ok (.aload_n 1, 1) := by decide +kernel
theorem dL_law_134 : decode cL_law 134 = .ok (.iload 7, 2) := by decide +kernel
theorem dL_law_136 : decode cL_law 136 = .ok (.aload_n 1, 1) := by decide +kernel
theorem dL_law_137 : decode cL_law 137 = .ok (.iload 5, 2) := by decide +kernel
theorem dL_law_139 : decode cL_law 139 = .ok (.iload 8, 2) := by decide +kernel
theorem dL_law_141 : decode cL_law 141 = .ok (.iconst 1, 1) := by decide +kernel
theorem dL_law_142 : decode cL_law 142 = .ok (.invokevirtual 92, 3) := by decide +kernel
theorem dL_law_145 : decode cL_law 145 = .ok (.iconst 0, 1) := by decide +kernel
theorem dL_law_146 : decode cL_law 146 = .ok (.invokevirtual 95, 3) := by decide +kernel
theorem dL_law_149 : decode cL_law 149 = .ok (.istore 7, 2) := by decide +kernel
theorem dL_law_151 : decode cL_law 151 = .ok (.iinc 8 1, 3) := by decide +kernel
theorem dL_law_154 : decode cL_law 154 = .ok (.goto (-57), 3) := by decide +kernel
theorem dL_law_157 : decode cL_law 157 = .ok (.iload 7, 2) := by decide +kernel
theorem dL_law_159 : decode cL_law 159 = .ok (.iload 5, 2) := by decide +kernel
theorem dL_law_161 : decode cL_law 161 = .ok (.if_icmp .ne 24, 3) := by decide +kernel
theorem dL_law_164 : decode cL_law 164 = .ok (.iload 6, 2) := by decide +kernel
theorem dL_law_166 : decode cL_law 166 = .ok (.sipush 400, 3) := by decide +kernel
theorem dL_law_169 : decode cL_law 169 = .ok (.if_icmp .ge 18, 3) := by decide +kernel
theorem dL_law_172 : decode cL_law 172 = .ok (.aload_n 1, 1) := by decide +kernel
theorem dL_law_173 : decode cL_law 173 = .ok (.iload 5, 2) := by decide +kernel
theorem dL_law_175 : decode cL_law 175 = .ok (.iload 6, 2) := by decide +kernel
theorem dL_law_177 : decode cL_law 177 = .ok (.iconst 0, 1) := by decide +kernel
theorem dL_law_178 : decode cL_law 178 = .ok (.invokevirtual 92, 3) := by decide +kernel
theorem dL_law_181 : decode cL_law 181 = .ok (.iconst (-1), 1) := by decide +kernel
theorem dL_law_182 : decode cL_law 182 = .ok (.if_icmp .eq 5, 3) := by decide +kernel
theorem dL_law_185 : decode cL_law 185 = .ok (.iconst 0, 1) := by decide +kernel
theorem dL_law_186 : decode cL_law 186 = .ok (.ireturn, 1) := by decide +kernel
theorem dL_law_187 : decode cL_law 187 = .ok (.iconst 0, 1) := by decide +kernel
theorem dL_law_188 : decode cL_law 188 = .ok (.istore 8, 2) := by decide +kernel
theorem dL_law_190 : decode cL_law 190 = .ok (.iload 8, 2) := by decide +kernel
theorem dL_law_192 : decode cL_law 192 = .ok (.aload_n 1, 1) := by decide +kernel
theorem dL_law_193 : decode cL_law 193 = .ok (.iload 5, 2) := by decide +kernel
theorem dL_law_195 : decode cL_law 195 = .ok (.bipush 9, 2) := by decide +kernel
theorem dL_law_197 : decode cL_law 197 = .ok (.invokevirtual 89, 3) := by decide +kernel
theorem dL_law_200 : decode cL_law 200 = .ok (.if_icmp .ge 33, 3) := by decide +kernel
theorem dL_law_203 : decode cL_law 203 = .ok (.aload_n 1, 1) := by decide +kernel
theorem dL_law_204 : decode cL_law 204 = .ok (.aload_n 1, 1) := by decide +kernel
theorem dL_law_205 : decode cL_law 205 = .ok (.iload 5, 2) := by decide +kernel
theorem dL_law_207 : decode cL_law 207 = .ok (.iload 8, 2) := by decide +kernel
theorem dL_law_209 : decode cL_law 209 = .ok (.iconst 0, 1) := by decide +kernel
theorem dL_law_210 : decode cL_law 210 = .ok (.invokevirtual 95, 3) := by decide +kernel
theorem dL_law_213 : decode cL_law 213 = .ok (.bipush 10, 2) := by decide +kernel
theorem dL_law_215 : decode cL_law 215 = .ok (.invokevirtual 89, 3) := by decide +kernel
theorem dL_law_218 : decode cL_law 218 = .ok (.iload 6, 2) := by decide +kernel
theorem dL_law_220 : decode cL_law 220 = .ok (.iconst 1, 1) := by decide +kernel
theorem dL_law_221 : decode cL_law 221 = .ok (.iadd, 1) := by decide +kernel
theorem dL_law_222 : decode cL_law 222 = .ok (.if_icmp .le 5, 3) := by decide +kernel
theorem dL_law_225 : decode cL_law 225 = .ok (.iconst 0, 1) := by decide +kernel
theorem dL_law_226 : decode cL_law 226 = .ok (.ireturn, 1) := by decide +kernel
theorem dL_law_227 : decode cL_law 227 = .ok (.iinc 8 1, 3) := by decide +kernel
theorem dL_law_230 : decode cL_law 230 = .ok (.goto (-40), 3) := by decide +kernel
theorem dL_law_233 : decode cL_law 233 = .ok (.iload 5, 2) := by decide +kernel
theorem dL_law_235 : decode cL_law 235 = .ok (.iconst 1, 1) := by decide +kernel
theorem dL_law_236 : decode cL_law 236 = .ok (.iload_n 3, 1) := by decide +kernel
theorem dL_law_237 : decode cL_law 237 = .ok (.bipush 20, 2) := by decide +kernel
theorem dL_law_239 : decode cL_law 239 = .ok (.idiv, 1) := by decide +kernel
theorem dL_law_240 : decode cL_law 240 = .ok (.iadd, 1) := by decide +kernel
theorem dL_law_241 : decode cL_law 241 = .ok (.iadd, 1) := by decide +kernel
theorem dL_law_242 : decode cL_law 242 = .ok (.istore 5, 2) := by decide +kernel
theorem dL_law_244 : decode cL_law 244 = .ok (.goto (-169), 3) := by decide +kernel
theorem dL_law_247 : decode cL_law 247 = .ok (.aload_n 0, 1) := by decide +kernel
theorem dL_law_248 : decode cL_law 248 = .ok (.bipush 6, 2) := by decide +kernel
theorem dL_law_250 : decode cL_law 250 = .ok (.invokestatic 12, 3) := by decide +kernel
theorem dL_law_253 : decode cL_law 253 = .ok (.bipush 8, 2) := by decide +kernel
theorem dL_law_255 : decode cL_law 255 = .ok (.invokestatic 18, 3) := by decide +kernel
theorem dL_law_258 : decode cL_law 258 = .ok (.istore 5, 2) := by decide +kernel
theorem dL_law_260 : decode cL_law 260 = .ok (.aload_n 0, 1) := by decide +kernel
theorem dL_law_261 : decode cL_law 261 = .ok (.bipush 6, 2) := by decide +kernel
theorem dL_law_263 : decode cL_law 263 = .ok (.invokestatic 12, 3) := by decide +kernel
theorem dL_law_266 : decode cL_law 266 = .ok (.iconst 3, 1) := by decide +kernel
theorem dL_law_267 : decode cL_law 267 = .ok (.ishr, 1) := by decide +kernel
theorem dL_law_268 : decode cL_law 268 = .ok (.bipush 8, 2) := by decide +kernel
theorem dL_law_270 : decode cL_law 270 = .ok (.invokestatic 18, 3) := by decide +kernel
theorem dL_law_273 : decode cL_law 273 = .ok (.istore 6, 2) := by decide +kernel
theorem dL_law_275 : decode cL_law 275 = .ok (.aload_n 1, 1) := by decide +kernel
theorem dL_law_276 : decode cL_law 276 = .ok (.iload 6, 2) := by decide +kernel
theorem dL_law_278 : decode cL_law 278 = .ok (.iload 5, 2) := by decide +kernel
theorem dL_law_280 : decode cL_law 280 = .ok (.invokevirtual 98, 3) := by decide +kernel
theorem dL_law_283 : decode cL_law 283 = .ok (.istore 7, 2) := by decide +kernel
theorem dL_law_285 : decode cL_law 285 = .ok (.aload_n 1, 1) := by decide +kernel
theorem dL_law_286 : decode cL_law 286 = .ok (.iload 5, 2) := by decide +kernel
theorem dL_law_288 : decode cL_law 288 = .ok (.iload 5, 2) := by decide +kernel
theorem dL_law_290 : decode cL_law 290 = .ok (.invokevirtual 98, 3) := by decide +kernel
theorem dL_law_293 : decode cL_law 293 = .ok (.iconst (-1), 1) := by decide +kernel
theorem dL_law_294 : decode cL_law 294 = .ok (.if_icmp .ne 41, 3) := by decide +kernel
theorem dL_law_297 : decode cL_law 297 = .ok (.iload 7, 2) := by decide +kernel
theorem dL_law_299 : decode cL_law 299 = .ok (.ifCond .lt 38, 3) := by decide +kernel
theorem dL_law_302 : decode cL_law 302 = .ok (.aload_n 1, 1) := by decide +kernel
theorem dL_law_303 : decode cL_law 303 = .ok (.iload 6, 2) := by decide +kernel
theorem dL_law_305 : decode cL_law 305 = .ok (.iload 7, 2) := by decide +kernel
theorem dL_law_307 : decode cL_law 307 = .ok (.invokevirtual 101, 3) := by decide +kernel
theorem dL_law_310 : decode cL_law 310 = .ok (.ifCond .eq 25, 3) := by decide +kernel
theorem dL_law_313 : decode cL_law 313 = .ok (.aload_n 1, 1) := by decide +kernel
theorem dL_law_314 : decode cL_law 314 = .ok (.iload 5, 2) := by decide +kernel
theorem dL_law_316 : decode cL_law 316 = .ok (.iload 7, 2) := by decide +kernel
theorem dL_law_318 : decode cL_law 318 = .ok (.invokevirtual 101, 3) := by decide +kernel
theorem dL_law_321 : decode cL_law 321 = .ok (.ifCond .ne 14, 3) := by decide +kernel
theorem dL_law_324 : decode cL_law 324 = .ok (.aload_n 1, 1) := by decide +kernel
theorem dL_law_325 : decode cL_law 325 = .ok (.iload 5, 2) := by decide +kernel
theorem dL_law_327 : decode cL_law 327 = .ok (.iload 7, 2) := by decide +kernel
theorem dL_law_329 : decode cL_law 329 = .ok (.invokevirtual 105, 3) := by decide +kernel
theorem dL_law_332 : decode cL_law 332 = .ok (.ifCond .ne 5, 3) := by decide +kernel
theorem dL_law_335 : decode cL_law 335 = .ok (.iconst 0, 1) := by decide +kernel
theorem dL_law_336 : decode cL_law 336 = .ok (.ireturn, 1) := by decide +kernel
theorem dL_law_337 : decode cL_law 337 = .ok (.iload 7, 2) := by decide +kernel
theorem dL_law_339 : decode cL_law 339 = .ok (.ifCond .lt 174, 3) := by decide +kernel
theorem dL_law_342 : decode cL_law 342 = .ok (.iconst 1, 1) := by decide +kernel
theorem dL_law_343 : decode cL_law 343 = .ok (.newarray .int, 2) := by decide +kernel
theorem dL_law_345 : decode cL_law 345 = .ok (.dup, 1) := by decide +kernel
theorem dL_law_346 : decode cL_law 346 = .ok (.iconst 0, 1) := by decide +kernel
theorem dL_law_347 : decode cL_law 347 = .ok (.iload 7, 2) := by decide +kernel
theorem dL_law_349 : decode cL_law 349 = .ok (.iastore, 1) := by decide +kernel
theorem dL_law_350 : decode cL_law 350 = .ok (.astore 8, 2) := by decide +kernel
theorem dL_law_352 : decode cL_law 352 = .ok (.iload_n 3, 1) := by decide +kernel
theorem dL_law_353 : decode cL_law 353 = .ok (.newarray .boolean, 2) := by decide +kernel
theorem dL_law_355 : decode cL_law 355 = .ok (.astore 9, 2) := by decide +kernel
theorem dL_law_357 : decode cL_law 357 = .ok (.aload 9, 2) := by decide +kernel
theorem dL_law_359 : decode cL_law 359 = .ok (.iload 7, 2) := by decide +kernel
theorem dL_law_361 : decode cL_law 361 = .ok (.iconst 1, 1) := by decide +kernel
theorem dL_law_362 : decode cL_law 362 = .ok (.bastore, 1) := by decide +kernel
theorem dL_law_363 : decode cL_law 363 = .ok (.iconst 0, 1) := by decide +kernel
theorem dL_law_364 : decode cL_law 364 = .ok (.istore 10, 2) := by decide +kernel
theorem dL_law_366 : decode cL_law 366 = .ok (.iconst 0, 1) := by decide +kernel
theorem dL_law_367 : decode cL_law 367 = .ok (.istore 11, 2) := by decide +kernel
theorem dL_law_369 : decode cL_law 369 = .ok (.iload 11, 2) := by decide +kernel
theorem dL_law_371 : decode cL_law 371 = .ok (.aload 8, 2) := by decide +kernel
theorem dL_law_373 : decode cL_law 373 = .ok (.arraylength, 1) := by decide +kernel
theorem dL_law_374 : decode cL_law 374 = .ok (.if_icmp .ge 132, 3) := by decide +kernel
theorem dL_law_377 : decode cL_law 377 = .ok (.aload 8, 2) := by decide +kernel
theorem dL_law_379 : decode cL_law 379 = .ok (.iload 11, 2) := by decide +kernel
theorem dL_law_381 : decode cL_law 381 = .ok (.iaload, 1) := by decide +kernel
theorem dL_law_382 : decode cL_law 382 = .ok (.istore 12, 2) := by decide +kernel
theorem dL_law_384 : decode cL_law 384 = .ok (.iload 10, 2) := by decide +kernel
theorem dL_law_386 : decode cL_law 386 = .ok (.ifCond .ne 14, 3) := by decide +kernel
theorem dL_law_389 : decode cL_law 389 = .ok (.aload_n 1, 1) := by decide +kernel
theorem dL_law_390 : decode cL_law 390 = .ok (.iload 12, 2) := by decide +kernel
theorem dL_law_392 : decode cL_law 392 = .ok (.bipush 9, 2) := by decide +kernel
theorem dL_law_394 : decode cL_law 394 = .ok (.invokevirtual 89, 3) := by decide +kernel
theorem dL_law_397 : decode cL_law 397 = .ok (.ifCond .ne 7, 3) := by decide +kernel
theorem dL_law_400 : decode cL_law 400 = .ok (.iconst 1, 1) := by decide +kernel
theorem dL_law_401 : decode cL_law 401 = .ok (.goto 4, 3) := by decide +kernel
theorem dL_law_404 : decode cL_law 404 = .ok (.iconst 0, 1) := by decide +kernel
theorem dL_law_405 : decode cL_law 405 = .ok (.istore 10, 2) := by decide +kernel
theorem dL_law_407 : decode cL_law 407 = .ok (.iconst 0, 1) := by decide +kernel
theorem dL_law_408 : decode cL_law 408 = .ok (.istore 13, 2) := by decide +kernel
theorem dL_law_410 : decode cL_law 410 = .ok (.iload 13, 2) := by decide +kernel
theorem dL_law_412 : decode cL_law 412 = .ok (.aload_n 1, 1) := by decide +kernel
theorem dL_law_413 : decode cL_law 413 = .ok (.iload 12, 2) := by decide +kernel
theorem dL_law_415 : decode cL_law 415 = .ok (.bipush 9, 2) := by decide +kernel
theorem dL_law_417 : decode cL_law 417 = .ok (.invokevirtual 89, 3) := by decide +kernel
theorem dL_law_420 : decode cL_law 420 = .ok (.if_icmp .ge 80, 3) := by decide +kernel
theorem dL_law_423 : decode cL_law 423 = .ok (.aload_n 1, 1) := by decide +kernel
theorem dL_law_424 : decode cL_law 424 = .ok (.iload 12, 2) := by decide +kernel
theorem dL_law_426 : decode cL_law 426 = .ok (.iload 13, 2) := by decide +kernel
theorem dL_law_428 : decode cL_law 428 = .ok (.iconst 0, 1) := by decide +kernel
theorem dL_law_429 : decode cL_law 429 = .ok (.invokevirtual 95, 3) := by decide +kernel
theorem dL_law_432 : decode cL_law 432 = .ok (.istore 14, 2) := by decide +kernel
theorem dL_law_434 : decode cL_law 434 = .ok (.aload_n 1, 1) := by decide +kernel
theorem dL_law_435 : decode cL_law 435 = .ok (.iload 5, 2) := by decide +kernel
theorem dL_law_437 : decode cL_law 437 = .ok (.iload 14, 2) := by decide +kernel
theorem dL_law_439 : decode cL_law 439 = .ok (.invokevirtual 101, 3) := by decide +kernel
theorem dL_law_442 : decode cL_law 442 = .ok (.ifCond .eq 6, 3) := by decide +kernel
theorem dL_law_445 : decode cL_law 445 = .ok (.goto 49, 3) := by decide +kernel
theorem dL_law_448 : decode cL_law 448 = .ok (.iload 10, 2) := by decide +kernel
theorem dL_law_450 : decode cL_law 450 = .ok (.ifCond .ne 11, 3) := by decide +kernel
theorem dL_law_453 : decode cL_law 453 = .ok (.aload 9, 2) := by decide +kernel
theorem dL_law_455 : decode cL_law 455 = .ok (.iload 14, 2) := by decide +kernel
theorem dL_law_457 : decode cL_law 457 = .ok (.baload, 1) := by decide +kernel
theorem dL_law_458 : decode cL_law 458 = .ok (.ifCond .eq 7, 3) := by decide +kernel
theorem dL_law_461 : decode cL_law 461 = .ok (.iconst 1, 1) := by decide +kernel
theorem dL_law_462 : decode cL_law 462 = .ok (.goto 4, 3) := by decide +kernel
theorem dL_law_465 : decode cL_law 465 = .ok (.iconst 0, 1) := by decide +kernel
theorem dL_law_466 : decode cL_law 466 = .ok (.istore 10, 2) := by decide +kernel
theorem dL_law_468 : decode cL_law 468 = .ok (.aload 9, 2) := by decide +kernel
theorem dL_law_470 : decode cL_law 470 = .ok (.iload 14, 2) := by decide +kernel
theorem dL_law_472 : decode cL_law 472 = .ok (.baload, 1) := by decide +kernel
theorem dL_law_473 : decode cL_law 473 = .ok (.ifCond .eq 6, 3) := by decide +kernel
theorem dL_law_476 : decode cL_law 476 = .ok (.goto 18, 3) := by decide +kernel
theorem dL_law_479 : decode cL_law 479 = .ok (.aload 9, 2) := by decide +kernel
theorem dL_law_481 : decode cL_law 481 = .ok (.iload 14, 2) := by decide +kernel
theorem dL_law_483 : decode cL_law 483 = .ok (.iconst 1, 1) := by decide +kernel
theorem dL_law_484 : decode cL_law 484 = .ok (.bastore, 1) := by decide +kernel
theorem dL_law_485 : decode cL_law 485 = .ok (.aload 8, 2) := by decide +kernel
theorem dL_law_487 : decode cL_law 487 = .ok (.iload 14, 2) := by decide +kernel
theorem dL_law_489 : decode cL_law 489 = .ok (.invokestatic 26, 3) := by decide +kernel
theorem dL_law_492 : decode cL_law 492 = .ok (.astore 8, 2) := by decide +kernel
theorem dL_law_494 : decode cL_law 494 = .ok (.iinc 13 1, 3) := by decide +kernel
theorem dL_law_497 : decode cL_law 497 = .ok (.goto (-87), 3) := by decide +kernel
theorem dL_law_500 : decode cL_law 500 = .ok (.iinc 11 1, 3) := by decide +kernel
theorem dL_law_503 : decode cL_law 503 = .ok (.goto (-134), 3) := by decide +kernel
theorem dL_law_506 : decode cL_law 506 = .ok (.iload 10, 2) := by decide +kernel
theorem dL_law_508 : decode cL_law 508 = .ok (.ifCond .ne 5, 3) := by decide +kernel
theorem dL_law_511 : decode cL_law 511 = .ok (.iconst 0, 1) := by decide +kernel
theorem dL_law_512 : decode cL_law 512 = .ok (.ireturn, 1) := by decide +kernel
theorem dL_law_513 : decode cL_law 513 = .ok (.iconst 0, 1) := by decide +kernel
theorem dL_law_514 : decode cL_law 514 = .ok (.istore 8, 2) := by decide +kernel
theorem dL_law_516 : decode cL_law 516 = .ok (.iconst 0, 1) := by decide +kernel
theorem dL_law_517 : decode cL_law 517 = .ok (.istore 9, 2) := by decide +kernel
theorem dL_law_519 : decode cL_law 519 = .ok (.aload 4, 2) := by decide +kernel
theorem dL_law_521 : decode cL_law 521 = .ok (.iload 5, 2) := by decide +kernel
theorem dL_law_523 : decode cL_law 523 = .ok (.aaload, 1) := by decide +kernel
theorem dL_law_524 : decode cL_law 524 = .ok (.iconst 0, 1) := by decide +kernel
theorem dL_law_525 : decode cL_law 525 = .ok (.baload, 1) := by decide +kernel
theorem dL_law_526 : decode cL_law 526 = .ok (.istore 10, 2) := by decide +kernel
theorem dL_law_528 : decode cL_law 528 = .ok (.aload_n 1, 1) := by decide +kernel
theorem dL_law_529 : decode cL_law 529 = .ok (.iload 5, 2) := by decide +kernel
theorem dL_law_531 : decode cL_law 531 = .ok (.iconst 0, 1) := by decide +kernel
theorem dL_law_532 : decode cL_law 532 = .ok (.invokevirtual 105, 3) := by decide +kernel
theorem dL_law_535 : decode cL_law 535 = .ok (.istore 11, 2) := by decide +kernel
theorem dL_law_537 : decode cL_law 537 = .ok (.iconst 0, 1) := by decide +kernel
theorem dL_law_538 : decode cL_law 538 = .ok (.istore 12, 2) := by decide +kernel
theorem dL_law_540 : decode cL_law 540 = .ok (.iload 12, 2) := by decide +kernel
theorem dL_law_542 : decode cL_law 542 = .ok (.iconst 4, 1) := by decide +kernel
theorem dL_law_543 : decode cL_law 543 = .ok (.iload_n 3, 1) := by decide +kernel
theorem dL_law_544 : decode cL_law 544 = .ok (.imul, 1) := by decide +kernel
theorem dL_law_545 : decode cL_law 545 = .ok (.bipush 40, 2) := by decide +kernel
theorem dL_law_547 : decode cL_law 547 = .ok (.iadd, 1) := by decide +kernel
theorem dL_law_548 : decode cL_law 548 = .ok (.if_icmp .ge 171, 3) := by decide +kernel
theorem dL_law_551 : decode cL_law 551 = .ok (.aload_n 1, 1) := by decide +kernel
theorem dL_law_552 : decode cL_law 552 = .ok (.iload 8, 2) := by decide +kernel
theorem dL_law_554 : decode cL_law 554 = .ok (.bipush 9, 2) := by decide +kernel
theorem dL_law_556 : decode cL_law 556 = .ok (.invokevirtual 89, 3) := by decide +kernel
theorem dL_law_559 : decode cL_law 559 = .ok (.ifCond .le 160, 3) := by decide +kernel
theorem dL_law_562 : decode cL_law 562 = .ok (.iload 10, 2) := by decide +kernel
theorem dL_law_564 : decode cL_law 564 = .ok (.ifCond .ne 155, 3) := by decide +kernel
theorem dL_law_567 : decode cL_law 567 = .ok (.aload_n 1, 1) := by decide +kernel
theorem dL_law_568 : decode cL_law 568 = .ok (.iload 8, 2) := by decide +kernel
theorem dL_law_570 : decode cL_law 570 = .ok (.bipush 9, 2) := by decide +kernel
theorem dL_law_572 : decode cL_law 572 = .ok (.invokevirtual 89, 3) := by decide +kernel
theorem dL_law_575 : decode cL_law 575 = .ok (.istore 13, 2) := by decide +kernel
theorem dL_law_577 : decode cL_law 577 = .ok (.iconst (-1), 1) := by decide +kernel
theorem dL_law_578 : decode cL_law 578 = .ok (.istore 14, 2) := by decide +kernel
theorem dL_law_580 : decode cL_law 580 = .ok (.iconst 0, 1) := by decide +kernel
theorem dL_law_581 : decode cL_law 581 = .ok (.istore 15, 2) := by decide +kernel
theorem dL_law_583 : decode cL_law 583 = .ok (.iload 15, 2) := by decide +kernel
theorem dL_law_585 : decode cL_law 585 = .ok (.aload_n 2, 1) := by decide +kernel
theorem dL_law_586 : decode cL_law 586 = .ok (.getfield 22, 3) := by decide +kernel
theorem dL_law_589 : decode cL_law 589 = .ok (.arraylength, 1) := by decide +kernel
theorem dL_law_590 : decode cL_law 590 = .ok (.if_icmp .ge 102, 3) := by decide +kernel
theorem dL_law_593 : decode cL_law 593 = .ok (.iload 14, 2) := by decide +kernel
theorem dL_law_595 : decode cL_law 595 = .ok (.ifCond .ge 97, 3) := by decide +kernel
theorem dL_law_598 : decode cL_law 598 = .ok (.iload 9, 2) := by decide +kernel
theorem dL_law_600 : decode cL_law 600 = .ok (.iload 15, 2) := by decide +kernel
theorem dL_law_602 : decode cL_law 602 = .ok (.iadd, 1) := by decide +kernel
theorem dL_law_603 : decode cL_law 603 = .ok (.aload_n 2, 1) := by decide +kernel
theorem dL_law_604 : decode cL_law 604 = .ok (.getfield 22, 3) := by decide +kernel
theorem dL_law_607 : decode cL_law 607 = .ok (.arraylength, 1) := by decide +kernel
theorem dL_law_608 : decode cL_law 608 = .ok (.irem, 1) := by decide +kernel
theorem dL_law_609 : decode cL_law 609 = .ok (.istore 16, 2) := by decide +kernel
theorem dL_law_611 : decode cL_law 611 = .ok (.iconst 0, 1) := by decide +kernel
theorem dL_law_612 : decode cL_law 612 = .ok (.istore 17, 2) := by decide +kernel
theorem dL_law_614 : decode cL_law 614 = .ok (.iload 17, 2) := by decide +kernel
theorem dL_law_616 : decode cL_law 616 = .ok (.iload 13, 2) := by decide +kernel
theorem dL_law_618 : decode cL_law 618 = .ok (.if_icmp .ge 51, 3) := by decide +kernel
theorem dL_law_621 : decode cL_law 621 = .ok (.iload 17, 2) := by decide +kernel
theorem dL_law_623 : decode cL_law 623 = .ok (.iload 12, 2) := by decide +kernel
theorem dL_law_625 : decode cL_law 625 = .ok (.iadd, 1) := by decide +kernel
theorem dL_law_626 : decode cL_law 626 = .ok (.iload 13, 2) := by decide +kernel
theorem dL_law_628 : decode cL_law 628 = .ok (.irem, 1) := by decide +kernel
theorem dL_law_629 : decode cL_law 629 = .ok (.istore 18, 2) := by decide +kernel
theorem dL_law_631 : decode cL_law 631 = .ok (.aload_n 1, 1) := by decide +kernel
theorem dL_law_632 : decode cL_law 632 = .ok (.iload 8, 2) := by decide +kernel
theorem dL_law_634 : decode cL_law 634 = .ok (.iload 18, 2) := by decide +kernel
theorem dL_law_636 : decode cL_law 636 = .ok (.iconst 1, 1) := by decide +kernel
theorem dL_law_637 : decode cL_law 637 = .ok (.invokevirtual 95, 3) := by decide +kernel
theorem dL_law_640 : decode cL_law 640 = .ok (.iload 16, 2) := by decide +kernel
theorem dL_law_642 : decode cL_law 642 = .ok (.if_icmp .eq 17, 3) := by decide +kernel
theorem dL_law_645 : decode cL_law 645 = .ok (.aload_n 1, 1) := by decide +kernel
theorem dL_law_646 : decode cL_law 646 = .ok (.iload 8, 2) := by decide +kernel
theorem dL_law_648 : decode cL_law 648 = .ok (.iload 18, 2) := by decide +kernel
theorem dL_law_650 : decode cL_law 650 = .ok (.iconst 3, 1) := by decide +kernel
theorem dL_law_651 : decode cL_law 651 = .ok (.invokevirtual 95, 3) := by decide +kernel
theorem dL_law_654 : decode cL_law 654 = .ok (.iload 16, 2) := by decide +kernel
theorem dL_law_656 : decode cL_law 656 = .ok (.if_icmp .ne 7, 3) := by decide +kernel
theorem dL_law_659 : decode cL_law 659 = .ok (.iload 18, 2) := by decide +kernel
theorem dL_law_661 : decode cL_law 661 = .ok (.istore 14, 2) := by decide +kernel
theorem dL_law_663 : decode cL_law 663 = .ok (.iinc 17 1, 3) := by decide +kernel
theorem dL_law_666 : decode cL_law 666 = .ok (.goto (-52), 3) := by decide +kernel
theorem dL_law_669 : decode cL_law 669 = .ok (.iload 14, 2) := by decide +kernel
theorem dL_law_671 : decode cL_law 671 = .ok (.ifCond .lt 15, 3) := by decide +kernel
theorem dL_law_674 : decode cL_law 674 = .ok (.iload 16, 2) := by decide +kernel
theorem dL_law_676 : decode cL_law 676 = .ok (.iconst 1, 1) := by decide +kernel
theorem dL_law_677 : decode cL_law 677 = .ok (.iadd, 1) := by decide +kernel
theorem dL_law_678 : decode cL_law 678 = .ok (.aload_n 2, 1) := by decide +kernel
theorem dL_law_679 : decode cL_law 679 = .ok (.getfield 22, 3) := by decide +kernel
theorem dL_law_682 : decode cL_law 682 = .ok (.arraylength, 1) := by decide +kernel
theorem dL_law_683 : decode cL_law 683 = .ok (.irem, 1) := by decide +kernel
theorem dL_law_684 : decode cL_law 684 = .ok (.istore 9, 2) := by decide +kernel
theorem dL_law_686 : decode cL_law 686 = .ok (.iinc 15 1, 3) := by decide +kernel
theorem dL_law_689 : decode cL_law 689 = .ok (.goto (-106), 3) := by decide +kernel
theorem dL_law_692 : decode cL_law 692 = .ok (.aload_n 1, 1) := by decide +kernel
theorem dL_law_693 : decode cL_law 693 = .ok (.iload 8, 2) := by decide +kernel
theorem dL_law_695 : decode cL_law 695 = .ok (.iload 14, 2) := by decide +kernel
theorem dL_law_697 : decode cL_law 697 = .ok (.iconst 0, 1) := by decide +kernel
theorem dL_law_698 : decode cL_law 698 = .ok (.invokevirtual 95, 3) := by decide +kernel
theorem dL_law_701 : decode cL_law 701 = .ok (.istore 8, 2) := by decide +kernel
theorem dL_law_703 : decode cL_law 703 = .ok (.aload 4, 2) := by decide +kernel
theorem dL_law_705 : decode cL_law 705 = .ok (.iload 5, 2) := by decide +kernel
theorem dL_law_707 : decode cL_law 707 = .ok (.aaload, 1) := by decide +kernel
theorem dL_law_708 : decode cL_law 708 = .ok (.iload 8, 2) := by decide +kernel
theorem dL_law_710 : decode cL_law 710 = .ok (.baload, 1) := by decide +kernel
theorem dL_law_711 : decode cL_law 711 = .ok (.istore 10, 2) := by decide +kernel
theorem dL_law_713 : decode cL_law 713 = .ok (.iinc 12 1, 3) := by decide +kernel
theorem dL_law_716 : decode cL_law 716 = .ok (.goto (-176), 3) := by decide +kernel
theorem dL_law_719 : decode cL_law 719 = .ok (.iload 10, 2) := by decide +kernel
theorem dL_law_721 : decode cL_law 721 = .ok (.ifCond .ne 19, 3) := by decide +kernel
theorem dL_law_724 : decode cL_law 724 = .ok (.aload_n 1, 1) := by decide +kernel
theorem dL_law_725 : decode cL_law 725 = .ok (.iload 8, 2) := by decide +kernel
theorem dL_law_727 : decode cL_law 727 = .ok (.bipush 9, 2) := by decide +kernel
theorem dL_law_729 : decode cL_law 729 = .ok (.invokevirtual 89, 3) := by decide +kernel
theorem dL_law_732 : decode cL_law 732 = .ok (.ifCond .gt 8, 3) := by decide +kernel
theorem dL_law_735 : decode cL_law 735 = .ok (.iload 11, 2) := by decide +kernel
theorem dL_law_737 : decode cL_law 737 = .ok (.ifCond .eq 7, 3) := by decide +kernel
theorem dL_law_740 : decode cL_law 740 = .ok (.iconst 1, 1) := by decide +kernel
theorem dL_law_741 : decode cL_law 741 = .ok (.goto 4, 3) := by decide +kernel
theorem dL_law_744 : decode cL_law 744 = .ok (.iconst 0, 1) := by decide +kernel
theorem dL_law_745 : decode cL_law 745 = .ok (.ireturn, 1) := by decide +kernel
abbrev vwCl : List vw_C := [(RX0, TX0, 4), (RX1, TX1, 12), (RX2, TX2, 7), (RX3, TX3, 11), (RX4, TX4, 15), (RX5, TX5, 4), (RX6, TX6, 8)]
