section
-- ===== PART A: goes FIRST, ahead of the names: the tables' words, and 'selects' of the private methods out of them =====
/-- a private method of a class that the tables say can be made, by its rows of tables_1 -/
def lw_okq (q : MethodName × Nat) : Prop := (q.1.cls ≠ "java/lang/invoke/MethodHandle" ∧ q.1.cls ≠ "java/lang/invoke/VarHandle") ∧ Cond.instantiable q.1.cls q.2 ∈ tables_1 ∧ Cond.privateMethod q.1 ∈ tables_1 ∧ Cond.instanceMethod q.1 ∈ tables_1
theorem lw_p0 : lw_okq (⟨"java/lang/Throwable", "fillInStackTrace", "(I)Ljava/lang/Throwable;"⟩, 6) := ⟨⟨by decide +kernel, by decide +kernel⟩, List.mem_of_getElem? (i := 231) (by decide +kernel), List.mem_of_getElem? (i := 229) (by decide +kernel), List.mem_of_getElem? (i := 230) (by decide +kernel)⟩
theorem lw_p1 : lw_okq (⟨"FairChecker$StateSpace", "slotOf", "(I)I"⟩, 11) := ⟨⟨by decide +kernel, by decide +kernel⟩, List.mem_of_getElem? (i := 60) (by decide +kernel), List.mem_of_getElem? (i := 283) (by decide +kernel), List.mem_of_getElem? (i := 284) (by decide +kernel)⟩
theorem lw_p2 : lw_okq (⟨"FairChecker$StateSpace", "newState", "(IIII)V"⟩, 11) := ⟨⟨by decide +kernel, by decide +kernel⟩, List.mem_of_getElem? (i := 60) (by decide +kernel), List.mem_of_getElem? (i := 288) (by decide +kernel), List.mem_of_getElem? (i := 289) (by decide +kernel)⟩
theorem lw_p3 : lw_okq (⟨"FairChecker$StateSpace", "addStepsOf", "(ILFairChecker$Protocol;)V"⟩, 11) := ⟨⟨by decide +kernel, by decide +kernel⟩, List.mem_of_getElem? (i := 60) (by decide +kernel), List.mem_of_getElem? (i := 292) (by decide +kernel), List.mem_of_getElem? (i := 293) (by decide +kernel)⟩
theorem lw_p4 : lw_okq (⟨"FairChecker$Move", "guardAllows", "(I)Z"⟩, 12) := ⟨⟨by decide +kernel, by decide +kernel⟩, List.mem_of_getElem? (i := 318) (by decide +kernel), List.mem_of_getElem? (i := 316) (by decide +kernel), List.mem_of_getElem? (i := 317) (by decide +kernel)⟩
theorem lw_p5 : lw_okq (⟨"FairChecker$StateSpace", "addStepsBy", "(LFairChecker$Move;ILFairChecker$Protocol;)V"⟩, 11) := ⟨⟨by decide +kernel, by decide +kernel⟩, List.mem_of_getElem? (i := 60) (by decide +kernel), List.mem_of_getElem? (i := 332) (by decide +kernel), List.mem_of_getElem? (i := 333) (by decide +kernel)⟩
theorem lw_p6 : lw_okq (⟨"FairChecker$StateSpace", "addStep", "(III)V"⟩, 11) := ⟨⟨by decide +kernel, by decide +kernel⟩, List.mem_of_getElem? (i := 60) (by decide +kernel), List.mem_of_getElem? (i := 347) (by decide +kernel), List.mem_of_getElem? (i := 348) (by decide +kernel)⟩
theorem lw_p7 : lw_okq (⟨"FairChecker$StateSpace", "numberOf", "(II)I"⟩, 11) := ⟨⟨by decide +kernel, by decide +kernel⟩, List.mem_of_getElem? (i := 60) (by decide +kernel), List.mem_of_getElem? (i := 351) (by decide +kernel), List.mem_of_getElem? (i := 352) (by decide +kernel)⟩
theorem lw_p8 : lw_okq (⟨"FairChecker$Facts", "isTrue", "(III)Z"⟩, 4) := ⟨⟨by decide +kernel, by decide +kernel⟩, List.mem_of_getElem? (i := 103) (by decide +kernel), List.mem_of_getElem? (i := 451) (by decide +kernel), List.mem_of_getElem? (i := 452) (by decide +kernel)⟩
theorem lw_p9 : lw_okq (⟨"FairChecker$Traps", "begin", "(ILFairChecker$StateSpace;LFairChecker$Facts;)V"⟩, 15) := ⟨⟨by decide +kernel, by decide +kernel⟩, List.mem_of_getElem? (i := 123) (by decide +kernel), List.mem_of_getElem? (i := 473) (by decide +kernel), List.mem_of_getElem? (i := 474) (by decide +kernel)⟩
theorem lw_p10 : lw_okq (⟨"FairChecker$Traps", "walkFrom", "(ILFairChecker$StateSpace;I)V"⟩, 15) := ⟨⟨by decide +kernel, by decide +kernel⟩, List.mem_of_getElem? (i := 123) (by decide +kernel), List.mem_of_getElem? (i := 479) (by decide +kernel), List.mem_of_getElem? (i := 480) (by decide +kernel)⟩
theorem lw_p11 : lw_okq (⟨"FairChecker$Traps", "enter", "(I)V"⟩, 15) := ⟨⟨by decide +kernel, by decide +kernel⟩, List.mem_of_getElem? (i := 123) (by decide +kernel), List.mem_of_getElem? (i := 483) (by decide +kernel), List.mem_of_getElem? (i := 484) (by decide +kernel)⟩
theorem lw_p12 : lw_okq (⟨"FairChecker$Traps", "follow", "(II)V"⟩, 15) := ⟨⟨by decide +kernel, by decide +kernel⟩, List.mem_of_getElem? (i := 123) (by decide +kernel), List.mem_of_getElem? (i := 490) (by decide +kernel), List.mem_of_getElem? (i := 491) (by decide +kernel)⟩
theorem lw_p13 : lw_okq (⟨"FairChecker$Traps", "leave", "(I)V"⟩, 15) := ⟨⟨by decide +kernel, by decide +kernel⟩, List.mem_of_getElem? (i := 123) (by decide +kernel), List.mem_of_getElem? (i := 495) (by decide +kernel), List.mem_of_getElem? (i := 496) (by decide +kernel)⟩
theorem lw_p14 : lw_okq (⟨"FairChecker$Traps", "close", "(ILFairChecker$StateSpace;I)V"⟩, 15) := ⟨⟨by decide +kernel, by decide +kernel⟩, List.mem_of_getElem? (i := 123) (by decide +kernel), List.mem_of_getElem? (i := 499) (by decide +kernel), List.mem_of_getElem? (i := 500) (by decide +kernel)⟩
theorem lw_p15 : lw_okq (⟨"FairChecker$Traps", "lookAt", "(ILFairChecker$StateSpace;)V"⟩, 15) := ⟨⟨by decide +kernel, by decide +kernel⟩, List.mem_of_getElem? (i := 123) (by decide +kernel), List.mem_of_getElem? (i := 503) (by decide +kernel), List.mem_of_getElem? (i := 504) (by decide +kernel)⟩
def lw_privs_1 : List (MethodName × Nat) := [(⟨"java/lang/Throwable", "fillInStackTrace", "(I)Ljava/lang/Throwable;"⟩, 6), (⟨"FairChecker$StateSpace", "slotOf", "(I)I"⟩, 11), (⟨"FairChecker$StateSpace", "newState", "(IIII)V"⟩, 11), (⟨"FairChecker$StateSpace", "addStepsOf", "(ILFairChecker$Protocol;)V"⟩, 11), (⟨"FairChecker$Move", "guardAllows", "(I)Z"⟩, 12), (⟨"FairChecker$StateSpace", "addStepsBy", "(LFairChecker$Move;ILFairChecker$Protocol;)V"⟩, 11), (⟨"FairChecker$StateSpace", "addStep", "(III)V"⟩, 11), (⟨"FairChecker$StateSpace", "numberOf", "(II)I"⟩, 11), (⟨"FairChecker$Facts", "isTrue", "(III)Z"⟩, 4), (⟨"FairChecker$Traps", "begin", "(ILFairChecker$StateSpace;LFairChecker$Facts;)V"⟩, 15), (⟨"FairChecker$Traps", "walkFrom", "(ILFairChecker$StateSpace;I)V"⟩, 15), (⟨"FairChecker$Traps", "enter", "(I)V"⟩, 15), (⟨"FairChecker$Traps", "follow", "(II)V"⟩, 15), (⟨"FairChecker$Traps", "leave", "(I)V"⟩, 15), (⟨"FairChecker$Traps", "close", "(ILFairChecker$StateSpace;I)V"⟩, 15), (⟨"FairChecker$Traps", "lookAt", "(ILFairChecker$StateSpace;)V"⟩, 15)]
theorem lw_r1 : ∀ q ∈ lw_privs_1, lw_okq q := List.forall_mem_cons.mpr ⟨lw_p0, List.forall_mem_cons.mpr ⟨lw_p1, List.forall_mem_cons.mpr ⟨lw_p2, List.forall_mem_cons.mpr ⟨lw_p3, List.forall_mem_cons.mpr ⟨lw_p4, List.forall_mem_cons.mpr ⟨lw_p5, List.forall_mem_cons.mpr ⟨lw_p6, List.forall_mem_cons.mpr ⟨lw_p7, List.forall_mem_cons.mpr ⟨lw_p8, List.forall_mem_cons.mpr ⟨lw_p9, List.forall_mem_cons.mpr ⟨lw_p10, List.forall_mem_cons.mpr ⟨lw_p11, List.forall_mem_cons.mpr ⟨lw_p12, List.forall_mem_cons.mpr ⟨lw_p13, List.forall_mem_cons.mpr ⟨lw_p14, List.forall_mem_cons.mpr ⟨lw_p15, fun _ h => absurd h List.not_mem_nil⟩⟩⟩⟩⟩⟩⟩⟩⟩⟩⟩⟩⟩⟩⟩⟩
theorem lw_p16 : lw_okq (⟨"FairChecker", "canBeFact", "(III)Z"⟩, 4) := ⟨⟨by decide +kernel, by decide +kernel⟩, List.mem_of_getElem? (i := 18) (by decide +kernel), List.mem_of_getElem? (i := 754) (by decide +kernel), List.mem_of_getElem? (i := 755) (by decide +kernel)⟩
def lw_privs_2 : List (MethodName × Nat) := [(⟨"FairChecker", "canBeFact", "(III)Z"⟩, 4)]
theorem lw_r2 : ∀ q ∈ lw_privs_2, lw_okq q := List.forall_mem_cons.mpr ⟨lw_p16, fun _ h => absurd h List.not_mem_nil⟩
def lw_privs : List (MethodName × Nat) := lw_privs_1 ++ (lw_privs_2)
def lw_tbl : List Cond := k2_sels lw_privs ++ tables_1
theorem lw_privs_ok : ∀ q ∈ lw_privs, lw_okq q := by
  show ∀ q ∈ lw_privs_1 ++ (lw_privs_2), lw_okq q
  exact List.forall_mem_append.mpr ⟨lw_r1, lw_r2⟩

def RX0 : String := "FairChecker$Facts"
def TX0 : u_T := fun k => match k with
  | 0 => ("FairChecker$Facts", "sorts", "[I", true)
  | 1 => ("FairChecker$Facts", "firsts", "[I", true)
  | 2 => ("FairChecker$Facts", "seconds", "[I", true)
  | _ => ("FairChecker$Facts", "size", "I", false)
def tyX0 : Nat → FieldType := fun k => match k with
  | 0 => .array .int
  | 1 => .array .int
  | 2 => .array .int
  | _ => .int
theorem nmX0 : ∀ a, a < 4 → ∀ b, b < 4 → a ≠ b → (TX0 a).2.1 ≠ (TX0 b).2.1 := by decide +kernel
theorem tyX0_ok : ∀ k, k < 4 → parseFieldDescriptor (TX0 k).2.2.1 = some (tyX0 k) := by decide +kernel
abbrev cX0_init : ByteArray := prog_2_method_1_code
def yX0_init : MethodName := ⟨RX0, "<init>", "()V"⟩
abbrev cX0_hasFact : ByteArray := prog_2_method_2_code
def yX0_hasFact : MethodName := ⟨RX0, "hasFact", "(I)Z"⟩
abbrev cX0_newFact : ByteArray := prog_2_method_3_code
def yX0_newFact : MethodName := ⟨RX0, "newFact", "(III)I"⟩
abbrev cX0_isTrueIn : ByteArray := prog_2_method_4_code
def yX0_isTrueIn : MethodName := ⟨RX0, "isTrueIn", "(II)Z"⟩
abbrev cX0_isTrue : ByteArray := prog_2_method_5_code
def yX0_isTrue : MethodName := ⟨RX0, "isTrue", "(III)Z"⟩
abbrev cX0_isKnown : ByteArray := prog_2_method_6_code
def yX0_isKnown : MethodName := ⟨RX0, "isKnown", "(II)Z"⟩
def RX1 : String := "FairChecker$Move"
def TX1 : u_T := fun k => match k with
  | 0 => ("FairChecker$Move", "process", "I", true)
  | 1 => ("FairChecker$Move", "number", "I", true)
  | 2 => ("FairChecker$Move", "from", "I", true)
  | 3 => ("FairChecker$Move", "to", "I", true)
  | 4 => ("FairChecker$Move", "hand", "I", true)
  | 5 => ("FairChecker$Move", "guardSort", "I", false)
  | 6 => ("FairChecker$Move", "guardVariable", "I", false)
  | 7 => ("FairChecker$Move", "guardNumber", "I", false)
  | 8 => ("FairChecker$Move", "deedSort", "I", false)
  | 9 => ("FairChecker$Move", "deedVariable", "I", false)
  | 10 => ("FairChecker$Move", "deedNumber", "I", false)
  | _ => ("FairChecker$Move", "deedGreatest", "I", false)
def tyX1 : Nat → FieldType := fun k => match k with
  | 0 => .int
  | 1 => .int
  | 2 => .int
  | 3 => .int
  | 4 => .int
  | 5 => .int
  | 6 => .int
  | 7 => .int
  | 8 => .int
  | 9 => .int
  | 10 => .int
  | _ => .int
theorem nmX1 : ∀ a, a < 12 → ∀ b, b < 12 → a ≠ b → (TX1 a).2.1 ≠ (TX1 b).2.1 := by decide +kernel
theorem tyX1_ok : ∀ k, k < 12 → parseFieldDescriptor (TX1 k).2.2.1 = some (tyX1 k) := by decide +kernel
abbrev cX1_init : ByteArray := prog_3_method_1_code
def yX1_init : MethodName := ⟨RX1, "<init>", "(IIIII)V"⟩
abbrev cX1_setGuard : ByteArray := prog_3_method_2_code
def yX1_setGuard : MethodName := ⟨RX1, "setGuard", "(III)I"⟩
abbrev cX1_setDeed : ByteArray := prog_3_method_3_code
def yX1_setDeed : MethodName := ⟨RX1, "setDeed", "(IIII)I"⟩
abbrev cX1_isOpenIn : ByteArray := prog_3_method_4_code
def yX1_isOpenIn : MethodName := ⟨RX1, "isOpenIn", "(I)Z"⟩
abbrev cX1_guardAllows : ByteArray := prog_3_method_5_code
def yX1_guardAllows : MethodName := ⟨RX1, "guardAllows", "(I)Z"⟩
abbrev cX1_afterDeed : ByteArray := prog_3_method_6_code
def yX1_afterDeed : MethodName := ⟨RX1, "afterDeed", "(I)I"⟩
abbrev cX1_afterGoing : ByteArray := prog_3_method_7_code
def yX1_afterGoing : MethodName := ⟨RX1, "afterGoing", "(I)I"⟩
def RX2 : String := "FairChecker$Protocol"
def TX2 : u_T := fun k => match k with
  | 0 => ("FairChecker$Protocol", "locations", "[I", true)
  | 1 => ("FairChecker$Protocol", "moveCounts", "[I", true)
  | 2 => ("FairChecker$Protocol", "moves", "[LFairChecker$Move;", true)
  | 3 => ("FairChecker$Protocol", "greatest", "[I", true)
  | 4 => ("FairChecker$Protocol", "begin", "[I", true)
  | 5 => ("FairChecker$Protocol", "processes", "I", false)
  | _ => ("FairChecker$Protocol", "variables", "I", false)
def tyX2 : Nat → FieldType := fun k => match k with
  | 0 => .array .int
  | 1 => .array .int
  | 2 => .array (.object "FairChecker$Move")
  | 3 => .array .int
  | 4 => .array .int
  | 5 => .int
  | _ => .int
theorem nmX2 : ∀ a, a < 7 → ∀ b, b < 7 → a ≠ b → (TX2 a).2.1 ≠ (TX2 b).2.1 := by decide +kernel
theorem tyX2_ok : ∀ k, k < 7 → parseFieldDescriptor (TX2 k).2.2.1 = some (tyX2 k) := by decide +kernel
abbrev cX2_init : ByteArray := prog_4_method_1_code
def yX2_init : MethodName := ⟨RX2, "<init>", "()V"⟩
abbrev cX2_hasProcess : ByteArray := prog_4_method_2_code
def yX2_hasProcess : MethodName := ⟨RX2, "hasProcess", "(I)Z"⟩
abbrev cX2_hasLocation : ByteArray := prog_4_method_3_code
def yX2_hasLocation : MethodName := ⟨RX2, "hasLocation", "(II)Z"⟩
abbrev cX2_hasVariable : ByteArray := prog_4_method_4_code
def yX2_hasVariable : MethodName := ⟨RX2, "hasVariable", "(I)Z"⟩
abbrev cX2_greatestOf : ByteArray := prog_4_method_5_code
def yX2_greatestOf : MethodName := ⟨RX2, "greatestOf", "(I)I"⟩
abbrev cX2_movesOf : ByteArray := prog_4_method_6_code
def yX2_movesOf : MethodName := ⟨RX2, "movesOf", "(I)I"⟩
abbrev cX2_find : ByteArray := prog_4_method_8_code
def yX2_find : MethodName := ⟨RX2, "find", "(II)LFairChecker$Move;"⟩
abbrev cX2_newProcess : ByteArray := prog_4_method_9_code
def yX2_newProcess : MethodName := ⟨RX2, "newProcess", "(I)I"⟩
abbrev cX2_newVariable : ByteArray := prog_4_method_10_code
def yX2_newVariable : MethodName := ⟨RX2, "newVariable", "(II)I"⟩
abbrev cX2_newMove : ByteArray := prog_4_method_11_code
def yX2_newMove : MethodName := ⟨RX2, "newMove", "(IIII)I"⟩
abbrev cX2_keyAtBeginning : ByteArray := prog_4_method_12_code
def yX2_keyAtBeginning : MethodName := ⟨RX2, "keyAtBeginning", "()I"⟩
def RX3 : String := "FairChecker$StateSpace"
def TX3 : u_T := fun k => match k with
  | 0 => ("FairChecker$StateSpace", "keys", "[I", true)
  | 1 => ("FairChecker$StateSpace", "depths", "[I", true)
  | 2 => ("FairChecker$StateSpace", "parents", "[I", true)
  | 3 => ("FairChecker$StateSpace", "parentSteps", "[I", true)
  | 4 => ("FairChecker$StateSpace", "takers", "[I", true)
  | 5 => ("FairChecker$StateSpace", "firstSteps", "[I", true)
  | 6 => ("FairChecker$StateSpace", "slots", "[I", true)
  | 7 => ("FairChecker$StateSpace", "packedSteps", "[I", false)
  | 8 => ("FairChecker$StateSpace", "states", "I", false)
  | 9 => ("FairChecker$StateSpace", "steps", "I", false)
  | _ => ("FairChecker$StateSpace", "isTooLarge", "Z", false)
def tyX3 : Nat → FieldType := fun k => match k with
  | 0 => .array .int
  | 1 => .array .int
  | 2 => .array .int
  | 3 => .array .int
  | 4 => .array .int
  | 5 => .array .int
  | 6 => .array .int
  | 7 => .array .int
  | 8 => .int
  | 9 => .int
  | _ => .boolean
theorem nmX3 : ∀ a, a < 11 → ∀ b, b < 11 → a ≠ b → (TX3 a).2.1 ≠ (TX3 b).2.1 := by decide +kernel
theorem tyX3_ok : ∀ k, k < 11 → parseFieldDescriptor (TX3 k).2.2.1 = some (tyX3 k) := by decide +kernel
abbrev cX3_init : ByteArray := prog_5_method_1_code
def yX3_init : MethodName := ⟨RX3, "<init>", "()V"⟩
abbrev cX3_isExplored : ByteArray := prog_5_method_2_code
def yX3_isExplored : MethodName := ⟨RX3, "isExplored", "()Z"⟩
abbrev cX3_hasState : ByteArray := prog_5_method_3_code
def yX3_hasState : MethodName := ⟨RX3, "hasState", "(I)Z"⟩
abbrev cX3_keyOf : ByteArray := prog_5_method_4_code
def yX3_keyOf : MethodName := ⟨RX3, "keyOf", "(I)I"⟩
abbrev cX3_depthOf : ByteArray := prog_5_method_5_code
def yX3_depthOf : MethodName := ⟨RX3, "depthOf", "(I)I"⟩
abbrev cX3_parentOf : ByteArray := prog_5_method_6_code
def yX3_parentOf : MethodName := ⟨RX3, "parentOf", "(I)I"⟩
abbrev cX3_parentStepOf : ByteArray := prog_5_method_7_code
def yX3_parentStepOf : MethodName := ⟨RX3, "parentStepOf", "(I)I"⟩
abbrev cX3_stepsOf : ByteArray := prog_5_method_8_code
def yX3_stepsOf : MethodName := ⟨RX3, "stepsOf", "(I)I"⟩
abbrev cX3_packedStep : ByteArray := prog_5_method_9_code
def yX3_packedStep : MethodName := ⟨RX3, "packedStep", "(II)I"⟩
abbrev cX3_takersIn : ByteArray := prog_5_method_10_code
def yX3_takersIn : MethodName := ⟨RX3, "takersIn", "(I)I"⟩
abbrev cX3_onTheWay : ByteArray := prog_5_method_11_code
def yX3_onTheWay : MethodName := ⟨RX3, "onTheWay", "(II)I"⟩
abbrev cX3_partOf : ByteArray := prog_5_method_12_code
def yX3_partOf : MethodName := ⟨RX3, "partOf", "(II)I"⟩
abbrev cX3_takersOf : ByteArray := prog_5_method_13_code
def yX3_takersOf : MethodName := ⟨RX3, "takersOf", "(I)I"⟩
abbrev cX3_forget : ByteArray := prog_5_method_14_code
def yX3_forget : MethodName := ⟨RX3, "forget", "()V"⟩
abbrev cX3_fill : ByteArray := prog_5_method_15_code
def yX3_fill : MethodName := ⟨RX3, "fill", "(LFairChecker$Protocol;)I"⟩
abbrev cX3_addStepsOf : ByteArray := prog_5_method_16_code
def yX3_addStepsOf : MethodName := ⟨RX3, "addStepsOf", "(ILFairChecker$Protocol;)V"⟩
abbrev cX3_addStepsBy : ByteArray := prog_5_method_17_code
def yX3_addStepsBy : MethodName := ⟨RX3, "addStepsBy", "(LFairChecker$Move;ILFairChecker$Protocol;)V"⟩
abbrev cX3_packedMover : ByteArray := prog_5_method_18_code
def yX3_packedMover : MethodName := ⟨RX3, "packedMover", "(LFairChecker$Move;)I"⟩
abbrev cX3_packedOther : ByteArray := prog_5_method_19_code
def yX3_packedOther : MethodName := ⟨RX3, "packedOther", "(LFairChecker$Move;)I"⟩
abbrev cX3_addStep : ByteArray := prog_5_method_20_code
def yX3_addStep : MethodName := ⟨RX3, "addStep", "(III)V"⟩
abbrev cX3_numberOf : ByteArray := prog_5_method_21_code
def yX3_numberOf : MethodName := ⟨RX3, "numberOf", "(II)I"⟩
abbrev cX3_newState : ByteArray := prog_5_method_22_code
def yX3_newState : MethodName := ⟨RX3, "newState", "(IIII)V"⟩
abbrev cX3_slotOf : ByteArray := prog_5_method_23_code
def yX3_slotOf : MethodName := ⟨RX3, "slotOf", "(I)I"⟩
def RX4 : String := "FairChecker$Traps"
def TX4 : u_T := fun k => match k with
  | 0 => ("FairChecker$Traps", "isWithout", "[Z", true)
  | 1 => ("FairChecker$Traps", "isWaiting", "[Z", true)
  | 2 => ("FairChecker$Traps", "isBadHere", "[Z", true)
  | 3 => ("FairChecker$Traps", "orders", "[I", true)
  | 4 => ("FairChecker$Traps", "lowest", "[I", true)
  | 5 => ("FairChecker$Traps", "nextSteps", "[I", true)
  | 6 => ("FairChecker$Traps", "path", "[I", true)
  | 7 => ("FairChecker$Traps", "waiting", "[I", true)
  | 8 => ("FairChecker$Traps", "pathLength", "I", false)
  | 9 => ("FairChecker$Traps", "waitingCount", "I", false)
  | 10 => ("FairChecker$Traps", "entered", "I", false)
  | 11 => ("FairChecker$Traps", "lookedFor", "I", false)
  | 12 => ("FairChecker$Traps", "trappedStates", "I", false)
  | 13 => ("FairChecker$Traps", "fairTo", "I", false)
  | _ => ("FairChecker$Traps", "goesToBad", "Z", false)
def tyX4 : Nat → FieldType := fun k => match k with
  | 0 => .array .boolean
  | 1 => .array .boolean
  | 2 => .array .boolean
  | 3 => .array .int
  | 4 => .array .int
  | 5 => .array .int
  | 6 => .array .int
  | 7 => .array .int
  | 8 => .int
  | 9 => .int
  | 10 => .int
  | 11 => .int
  | 12 => .int
  | 13 => .int
  | _ => .boolean
theorem nmX4 : ∀ a, a < 15 → ∀ b, b < 15 → a ≠ b → (TX4 a).2.1 ≠ (TX4 b).2.1 := by decide +kernel
theorem tyX4_ok : ∀ k, k < 15 → parseFieldDescriptor (TX4 k).2.2.1 = some (tyX4 k) := by decide +kernel
abbrev cX4_init : ByteArray := prog_6_method_1_code
def yX4_init : MethodName := ⟨RX4, "<init>", "()V"⟩
abbrev cX4_forget : ByteArray := prog_6_method_2_code
def yX4_forget : MethodName := ⟨RX4, "forget", "()V"⟩
abbrev cX4_isBadState : ByteArray := prog_6_method_3_code
def yX4_isBadState : MethodName := ⟨RX4, "isBadState", "(I)Z"⟩
abbrev cX4_lookFor : ByteArray := prog_6_method_4_code
def yX4_lookFor : MethodName := ⟨RX4, "lookFor", "(ILFairChecker$StateSpace;LFairChecker$Facts;I)V"⟩
abbrev cX4_begin : ByteArray := prog_6_method_5_code
def yX4_begin : MethodName := ⟨RX4, "begin", "(ILFairChecker$StateSpace;LFairChecker$Facts;)V"⟩
abbrev cX4_walkFrom : ByteArray := prog_6_method_6_code
def yX4_walkFrom : MethodName := ⟨RX4, "walkFrom", "(ILFairChecker$StateSpace;I)V"⟩
abbrev cX4_enter : ByteArray := prog_6_method_7_code
def yX4_enter : MethodName := ⟨RX4, "enter", "(I)V"⟩
abbrev cX4_follow : ByteArray := prog_6_method_8_code
def yX4_follow : MethodName := ⟨RX4, "follow", "(II)V"⟩
abbrev cX4_leave : ByteArray := prog_6_method_9_code
def yX4_leave : MethodName := ⟨RX4, "leave", "(I)V"⟩
abbrev cX4_close : ByteArray := prog_6_method_10_code
def yX4_close : MethodName := ⟨RX4, "close", "(ILFairChecker$StateSpace;I)V"⟩
abbrev cX4_lookAt : ByteArray := prog_6_method_11_code
def yX4_lookAt : MethodName := ⟨RX4, "lookAt", "(ILFairChecker$StateSpace;)V"⟩
def RX5 : String := "FairChecker"
def TX5 : u_T := fun k => match k with
  | 0 => ("FairChecker", "protocol", "LFairChecker$Protocol;", true)
  | 1 => ("FairChecker", "space", "LFairChecker$StateSpace;", true)
  | 2 => ("FairChecker", "facts", "LFairChecker$Facts;", true)
  | _ => ("FairChecker", "traps", "LFairChecker$Traps;", true)
def tyX5 : Nat → FieldType := fun k => match k with
  | 0 => .object "FairChecker$Protocol"
  | 1 => .object "FairChecker$StateSpace"
  | 2 => .object "FairChecker$Facts"
  | _ => .object "FairChecker$Traps"
theorem nmX5 : ∀ a, a < 4 → ∀ b, b < 4 → a ≠ b → (TX5 a).2.1 ≠ (TX5 b).2.1 := by decide +kernel
theorem tyX5_ok : ∀ k, k < 4 → parseFieldDescriptor (TX5 k).2.2.1 = some (tyX5 k) := by decide +kernel
abbrev cX5_init : ByteArray := prog_1_method_1_code
def yX5_init : MethodName := ⟨RX5, "<init>", "()V"⟩
abbrev cX5_addProcess : ByteArray := prog_1_method_2_code
def yX5_addProcess : MethodName := ⟨RX5, "addProcess", "(I)I"⟩
abbrev cX5_addVariable : ByteArray := prog_1_method_3_code
def yX5_addVariable : MethodName := ⟨RX5, "addVariable", "(II)I"⟩
abbrev cX5_addMove : ByteArray := prog_1_method_4_code
def yX5_addMove : MethodName := ⟨RX5, "addMove", "(IIII)I"⟩
abbrev cX5_guard : ByteArray := prog_1_method_5_code
def yX5_guard : MethodName := ⟨RX5, "guard", "(IIIII)I"⟩
abbrev cX5_deed : ByteArray := prog_1_method_6_code
def yX5_deed : MethodName := ⟨RX5, "deed", "(IIIII)I"⟩
abbrev cX5_explore : ByteArray := prog_1_method_8_code
def yX5_explore : MethodName := ⟨RX5, "explore", "()I"⟩
abbrev cX5_state : ByteArray := prog_1_method_9_code
def yX5_state : MethodName := ⟨RX5, "state", "(II)I"⟩
abbrev cX5_step : ByteArray := prog_1_method_10_code
def yX5_step : MethodName := ⟨RX5, "step", "(III)I"⟩
abbrev cX5_addFact : ByteArray := prog_1_method_11_code
def yX5_addFact : MethodName := ⟨RX5, "addFact", "(III)I"⟩
abbrev cX5_holds : ByteArray := prog_1_method_12_code
def yX5_holds : MethodName := ⟨RX5, "holds", "(II)Z"⟩
abbrev cX5_leads : ByteArray := prog_1_method_15_code
def yX5_leads : MethodName := ⟨RX5, "leads", "(II)I"⟩
abbrev cX5_isBad : ByteArray := prog_1_method_16_code
def yX5_isBad : MethodName := ⟨RX5, "isBad", "(II)Z"⟩
abbrev cX5_way : ByteArray := prog_1_method_18_code
def yX5_way : MethodName := ⟨RX5, "way", "(III)I"⟩
abbrev cX5_isBetween : ByteArray := prog_1_method_21_code
def yX5_isBetween : MethodName := ⟨RX5, "isBetween", "(III)Z"⟩
abbrev cX5_canBeFact : ByteArray := prog_1_method_23_code
def yX5_canBeFact : MethodName := ⟨RX5, "canBeFact", "(III)Z"⟩
abbrev cX5_locationIn : ByteArray := prog_1_method_28_code
def yX5_locationIn : MethodName := ⟨RX5, "locationIn", "(II)I"⟩
abbrev cX5_withLocation : ByteArray := prog_1_method_29_code
def yX5_withLocation : MethodName := ⟨RX5, "withLocation", "(III)I"⟩
abbrev cX5_valueIn : ByteArray := prog_1_method_30_code
def yX5_valueIn : MethodName := ⟨RX5, "valueIn", "(II)I"⟩
abbrev cX5_withValue : ByteArray := prog_1_method_31_code
def yX5_withValue : MethodName := ⟨RX5, "withValue", "(III)I"⟩
def RX6 : String := "FairCheckerLaw$Hand"
def TX6 : u_T := fun k => match k with
  | 0 => ("FairCheckerLaw$Hand", "locations", "[I", false)
  | 1 => ("FairCheckerLaw$Hand", "greatest", "[I", false)
  | 2 => ("FairCheckerLaw$Hand", "begins", "[I", false)
  | 3 => ("FairCheckerLaw$Hand", "moves", "[[[I", false)
  | 4 => ("FairCheckerLaw$Hand", "states", "[[I", false)
  | 5 => ("FairCheckerLaw$Hand", "steps", "[[[I", false)
  | 6 => ("FairCheckerLaw$Hand", "from", "[I", false)
  | _ => ("FairCheckerLaw$Hand", "fromStep", "[I", false)
def tyX6 : Nat → FieldType := fun k => match k with
  | 0 => .array .int
  | 1 => .array .int
  | 2 => .array .int
  | 3 => .array (.array (.array .int))
  | 4 => .array (.array .int)
  | 5 => .array (.array (.array .int))
  | 6 => .array .int
  | _ => .array .int
theorem nmX6 : ∀ a, a < 8 → ∀ b, b < 8 → a ≠ b → (TX6 a).2.1 ≠ (TX6 b).2.1 := by decide +kernel
theorem tyX6_ok : ∀ k, k < 8 → parseFieldDescriptor (TX6 k).2.2.1 = some (tyX6 k) := by decide +kernel
abbrev cX6_init : ByteArray := prog_8_method_1_code
def yX6_init : MethodName := ⟨RX6, "<init>", "()V"⟩
abbrev cX6_more : ByteArray := prog_8_method_2_code
def yX6_more : MethodName := ⟨RX6, "more", "([II)[I"⟩
abbrev cX6_more_ : ByteArray := prog_8_method_3_code
def yX6_more_ : MethodName := ⟨RX6, "more", "([[I[I)[[I"⟩
abbrev cX6_done : ByteArray := prog_8_method_4_code
def yX6_done : MethodName := ⟨RX6, "done", "([II[I)[I"⟩
abbrev cX6_isOpen : ByteArray := prog_8_method_5_code
def yX6_isOpen : MethodName := ⟨RX6, "isOpen", "([II[I)Z"⟩
abbrev cX6_find : ByteArray := prog_8_method_6_code
def yX6_find : MethodName := ⟨RX6, "find", "([I)I"⟩
abbrev cX6_number : ByteArray := prog_8_method_7_code
def yX6_number : MethodName := ⟨RX6, "number", "([III)I"⟩
abbrev cX6_explore : ByteArray := prog_8_method_8_code
def yX6_explore : MethodName := ⟨RX6, "explore", "(I)Z"⟩
def RX7 : String := "FairCheckerModel"
def TX7 : u_T := fun k => match k with
  | _ => ("", "", "", false)
def tyX7 : Nat → FieldType := fun k => match k with
  | _ => .int
theorem nmX7 : ∀ a, a < 0 → ∀ b, b < 0 → a ≠ b → (TX7 a).2.1 ≠ (TX7 b).2.1 := by decide +kernel
theorem tyX7_ok : ∀ k, k < 0 → parseFieldDescriptor (TX7 k).2.2.1 = some (tyX7 k) := by decide +kernel
def RJ9 : String := "java/lang/Math"
abbrev cJ9_min_7cf53 : ByteArray := prog_15_method_69_code
def yJ9_min_7cf53 : MethodName := ⟨RJ9, "min", "(II)I"⟩
def RJ0 : String := "java/lang/String"
def RJ10 : String := "java/lang/System"
def RJ7 : String := "java/util/Arrays"
abbrev cJ7_fill_53178 : ByteArray := prog_20_method_103_code
def yJ7_fill_53178 : MethodName := ⟨RJ7, "fill", "([II)V"⟩
abbrev cJ7_copyOf_59c91 : ByteArray := prog_20_method_123_code
def yJ7_copyOf_59c91 : MethodName := ⟨RJ7, "copyOf", "([II)[I"⟩
def RL : String := "FairCheckerLaw"
abbrev cL_below : ByteArray := method_2_code
def yL_below : MethodName := ⟨RL, "below", "(II)I"⟩
abbrev cL_cell : ByteArray := method_3_code
def yL_cell : MethodName := ⟨RL, "cell", "([II)I"⟩
abbrev cL_build : ByteArray := method_4_code
def yL_build : MethodName := ⟨RL, "build", "(LFairChecker;[I)LFairCheckerLaw$Hand;"⟩
abbrev cL_facts : ByteArray := method_5_code
def yL_facts : MethodName := ⟨RL, "facts", "(LFairChecker;LFairCheckerLaw$Hand;[II)[[Z"⟩
abbrev cL_law : ByteArray := code
def yL_law : MethodName := ⟨RL, "law", "([I)Z"⟩
theorem dX0_init_0 : decode cX0_init 0 = .ok (.aload_n 0, 1) := by decide +kernel
theorem dX0_init_1 : decode cX0_init 1 = .ok (.invokespecial 3, 3) := by decide +kernel
theorem dX0_init_4 : decode cX0_init 4 = .ok (.aload_n 0, 1) := by decide +kernel
theorem dX0_init_5 : decode cX0_init 5 = .ok (.bipush 12, 2) := by decide +kernel
theorem dX0_init_7 : decode cX0_init 7 = .ok (.newarray .int, 2) := by decide +kernel
theorem dX0_init_9 : decode cX0_init 9 = .ok (.putfield 9, 3) := by decide +kernel
theorem dX0_init_12 : decode cX0_init 12 = .ok (.aload_n 0, 1) := by decide +kernel
theorem dX0_init_13 : decode cX0_init 13 = .ok (.bipush 12, 2) := by decide +kernel
theorem dX0_init_15 : decode cX0_init 15 = .ok (.newarray .int, 2) := by decide +kernel
theorem dX0_init_17 : decode cX0_init 17 = .ok (.putfield 15, 3) := by decide +kernel
theorem dX0_init_20 : decode cX0_init 20 = .ok (.aload_n 0, 1) := by decide +kernel
theorem dX0_init_21 : decode cX0_init 21 = .ok (.bipush 12, 2) := by decide +kernel
theorem dX0_init_23 : decode cX0_init 23 = .ok (.newarray .int, 2) := by decide +kernel
theorem dX0_init_25 : decode cX0_init 25 = .ok (.putfield 18, 3) := by decide +kernel
theorem dX0_init_28 : decode cX0_init 28 = .ok (.return_, 1) := by decide +kernel
theorem dX0_hasFact_0 : decode cX0_hasFact 0 = .ok (.iload_n 1, 1) := by decide +kernel
theorem dX0_hasFact_1 : decode cX0_hasFact 1 = .ok (.ifCond .lt 15, 3) := by decide +kernel
theorem dX0_hasFact_4 : decode cX0_hasFact 4 = .ok (.iload_n 1, 1) := by decide +kernel
theorem dX0_hasFact_5 : decode cX0_hasFact 5 = .ok (.aload_n 0, 1) := by decide +kernel
theorem dX0_hasFact_6 : decode cX0_hasFact 6 = .ok (.getfield 21, 3) := by decide +kernel
theorem dX0_hasFact_9 : decode cX0_hasFact 9 = .ok (.if_icmp .ge 7, 3) := by decide +kernel
theorem dX0_hasFact_12 : decode cX0_hasFact 12 = .ok (.iconst 1, 1) := by decide +kernel
theorem dX0_hasFact_13 : decode cX0_hasFact 13 = .ok (.goto 4, 3) := by decide +kernel
theorem dX0_hasFact_16 : decode cX0_hasFact 16 = .ok (.iconst 0, 1) := by decide +kernel
theorem dX0_hasFact_17 : decode cX0_hasFact 17 = .ok (.ireturn, 1) := by decide +kernel
theorem dX0_newFact_0 : decode cX0_newFact 0 = .ok (.aload_n 0, 1) := by decide +kernel
theorem dX0_newFact_1 : decode cX0_newFact 1 = .ok (.getfield 9, 3) := by decide +kernel
theorem dX0_newFact_4 : decode cX0_newFact 4 = .ok (.aload_n 0, 1) := by decide +kernel
theorem dX0_newFact_5 : decode cX0_newFact 5 = .ok (.getfield 21, 3) := by decide +kernel
theorem dX0_newFact_8 : decode cX0_newFact 8 = .ok (.iload_n 1, 1) := by decide +kernel
theorem dX0_newFact_9 : decode cX0_newFact 9 = .ok (.iastore, 1) := by decide +kernel
theorem dX0_newFact_10 : decode cX0_newFact 10 = .ok (.aload_n 0, 1) := by decide +kernel
theorem dX0_newFact_11 : decode cX0_newFact 11 = .ok (.getfield 15, 3) := by decide +kernel
theorem dX0_newFact_14 : decode cX0_newFact 14 = .ok (.aload_n 0, 1) := by decide +kernel
theorem dX0_newFact_15 : decode cX0_newFact 15 = .ok (.getfield 21, 3) := by decide +kernel
theorem dX0_newFact_18 : decode cX0_newFact 18 = .ok (.iload_n 2, 1) := by decide +kernel
theorem dX0_newFact_19 : decode cX0_newFact 19 = .ok (.iastore, 1) := by decide +kernel
theorem dX0_newFact_20 : decode cX0_newFact 20 = .ok (.aload_n 0, 1) := by decide +kernel
theorem dX0_newFact_21 : decode cX0_newFact 21 = .ok (.getfield 18, 3) := by decide +kernel
theorem dX0_newFact_24 : decode cX0_newFact 24 = .ok (.aload_n 0, 1) := by decide +kernel
theorem dX0_newFact_25 : decode cX0_newFact 25 = .ok (.getfield 21, 3) := by decide +kernel
theorem dX0_newFact_28 : decode cX0_newFact 28 = .ok (.iload_n 3, 1) := by decide +kernel
theorem dX0_newFact_29 : decode cX0_newFact 29 = .ok (.iastore, 1) := by decide +kernel
theorem dX0_newFact_30 : decode cX0_newFact 30 = .ok (.aload_n 0, 1) := by decide +kernel
theorem dX0_newFact_31 : decode cX0_newFact 31 = .ok (.dup, 1) := by decide +kernel
theorem dX0_newFact_32 : decode cX0_newFact 32 = .ok (.getfield 21, 3) := by decide +kernel
theorem dX0_newFact_35 : decode cX0_newFact 35 = .ok (.iconst 1, 1) := by decide +kernel
theorem dX0_newFact_36 : decode cX0_newFact 36 = .ok (.iadd, 1) := by decide +kernel
theorem dX0_newFact_37 : decode cX0_newFact 37 = .ok (.putfield 21, 3) := by decide +kernel
theorem dX0_newFact_40 : decode cX0_newFact 40 = .ok (.aload_n 0, 1) := by decide +kernel
theorem dX0_newFact_41 : decode cX0_newFact 41 = .ok (.getfield 21, 3) := by decide +kernel
theorem dX0_newFact_44 : decode cX0_newFact 44 = .ok (.iconst 1, 1) := by decide +kernel
theorem dX0_newFact_45 : decode cX0_newFact 45 = .ok (.isub, 1) := by decide +kernel
theorem dX0_newFact_46 : decode cX0_newFact 46 = .ok (.ireturn, 1) := by decide +kernel
theorem dX0_isTrueIn_0 : decode cX0_isTrueIn 0 = .ok (.iconst 0, 1) := by decide +kernel
theorem dX0_isTrueIn_1 : decode cX0_isTrueIn 1 = .ok (.istore_n 3, 1) := by decide +kernel
theorem dX0_isTrueIn_2 : decode cX0_isTrueIn 2 = .ok (.iconst 0, 1) := by decide +kernel
theorem dX0_isTrueIn_3 : decode cX0_isTrueIn 3 = .ok (.istore 4, 2) := by decide +kernel
theorem dX0_isTrueIn_5 : decode cX0_isTrueIn 5 = .ok (.iload 4, 2) := by decide +kernel
theorem dX0_isTrueIn_7 : decode cX0_isTrueIn 7 = .ok (.iload_n 1, 1) := by decide +kernel
theorem dX0_isTrueIn_8 : decode cX0_isTrueIn 8 = .ok (.if_icmp .gt 36, 3) := by decide +kernel
theorem dX0_isTrueIn_11 : decode cX0_isTrueIn 11 = .ok (.iload 4, 2) := by decide +kernel
theorem dX0_isTrueIn_13 : decode cX0_isTrueIn 13 = .ok (.aload_n 0, 1) := by decide +kernel
theorem dX0_isTrueIn_14 : decode cX0_isTrueIn 14 = .ok (.getfield 21, 3) := by decide +kernel
theorem dX0_isTrueIn_17 : decode cX0_isTrueIn 17 = .ok (.if_icmp .ge 27, 3) := by decide +kernel
theorem dX0_isTrueIn_20 : decode cX0_isTrueIn 20 = .ok (.aload_n 0, 1) := by decide +kernel
theorem dX0_isTrueIn_21 : decode cX0_isTrueIn 21 = .ok (.iload 4, 2) := by decide +kernel
theorem dX0_isTrueIn_23 : decode cX0_isTrueIn 23 = .ok (.iload_n 2, 1) := by decide +kernel
theorem dX0_isTrueIn_24 : decode cX0_isTrueIn 24 = .ok (.iload_n 3, 1) := by decide +kernel
theorem dX0_isTrueIn_25 : decode cX0_isTrueIn 25 = .ok (.invokevirtual 25, 3) := by decide +kernel
theorem dX0_isTrueIn_28 : decode cX0_isTrueIn 28 = .ok (.ifCond .eq 10, 3) := by decide +kernel
theorem dX0_isTrueIn_31 : decode cX0_isTrueIn 31 = .ok (.iload_n 3, 1) := by decide +kernel
theorem dX0_isTrueIn_32 : decode cX0_isTrueIn 32 = .ok (.iconst 1, 1) := by decide +kernel
theorem dX0_isTrueIn_33 : decode cX0_isTrueIn 33 = .ok (.iload 4, 2) := by decide +kernel
theorem dX0_isTrueIn_35 : decode cX0_isTrueIn 35 = .ok (.ishl, 1) := by decide +kernel
theorem dX0_isTrueIn_36 : decode cX0_isTrueIn 36 = .ok (.ior, 1) := by decide +kernel
theorem dX0_isTrueIn_37 : decode cX0_isTrueIn 37 = .ok (.istore_n 3, 1) := by decide +kernel
theorem dX0_isTrueIn_38 : decode cX0_isTrueIn 38 = .ok (.iinc 4 1, 3) := by decide +kernel
theorem dX0_isTrueIn_41 : decode cX0_isTrueIn 41 = .ok (.goto (-36), 3) := by decide +kernel
theorem dX0_isTrueIn_44 : decode cX0_isTrueIn 44 = .ok (.iload_n 3, 1) := by decide +kernel
theorem dX0_isTrueIn_45 : decode cX0_isTrueIn 45 = .ok (.iload_n 1, 1) := by decide +kernel
theorem dX0_isTrueIn_46 : decode cX0_isTrueIn 46 = .ok (.invokestatic 29, 3) := by decide +kernel
theorem dX0_isTrueIn_49 : decode cX0_isTrueIn 49 = .ok (.ireturn, 1) := by decide +kernel
theorem dX0_isTrue_0 : decode cX0_isTrue 0 = .ok (.aload_n 0, 1) := by decide +kernel
theorem dX0_isTrue_1 : decode cX0_isTrue 1 = .ok (.getfield 15, 3) := by decide +kernel
theorem dX0_isTrue_4 : decode cX0_isTrue 4 = .ok (.iload_n 1, 1) := by decide +kernel
theorem dX0_isTrue_5 : decode cX0_isTrue 5 = .ok (.iaload, 1) := by decide +kernel
theorem dX0_isTrue_6 : decode cX0_isTrue 6 = .ok (.istore 4, 2) := by decide +kernel
theorem dX0_isTrue_8 : decode cX0_isTrue 8 = .ok (.aload_n 0, 1) := by decide +kernel
theorem dX0_isTrue_9 : decode cX0_isTrue 9 = .ok (.getfield 18, 3) := by decide +kernel
theorem dX0_isTrue_12 : decode cX0_isTrue 12 = .ok (.iload_n 1, 1) := by decide +kernel
theorem dX0_isTrue_13 : decode cX0_isTrue 13 = .ok (.iaload, 1) := by decide +kernel
theorem dX0_isTrue_14 : decode cX0_isTrue 14 = .ok (.istore 5, 2) := by decide +kernel
theorem dX0_isTrue_16 : decode cX0_isTrue 16 = .ok (.aload_n 0, 1) := by decide +kernel
theorem dX0_isTrue_17 : decode cX0_isTrue 17 = .ok (.getfield 9, 3) := by decide +kernel
theorem dX0_isTrue_20 : decode cX0_isTrue 20 = .ok (.iload_n 1, 1) := by decide +kernel
theorem dX0_isTrue_21 : decode cX0_isTrue 21 = .ok (.iaload, 1) := by decide +kernel
theorem dX0_isTrue_22 : decode cX0_isTrue 22 = .ok (.tableswitch 124 0 4 #[34, 51, 68, 85, 100], 34) := by decide +kernel
theorem dX0_isTrue_56 : decode cX0_isTrue 56 = .ok (.iload_n 2, 1) := by decide +kernel
theorem dX0_isTrue_57 : decode cX0_isTrue 57 = .ok (.iload 4, 2) := by decide +kernel
theorem dX0_isTrue_59 : decode cX0_isTrue 59 = .ok (.invokestatic 33, 3) := by decide +kernel
theorem dX0_isTrue_62 : decode cX0_isTrue 62 = .ok (.iload 5, 2) := by decide +kernel
theorem dX0_isTrue_64 : decode cX0_isTrue 64 = .ok (.if_icmp .ne 7, 3) := by decide +kernel
theorem dX0_isTrue_67 : decode cX0_isTrue 67 = .ok (.iconst 1, 1) := by decide +kernel
theorem dX0_isTrue_68 : decode cX0_isTrue 68 = .ok (.goto 4, 3) := by decide +kernel
theorem dX0_isTrue_71 : decode cX0_isTrue 71 = .ok (.iconst 0, 1) := by decide +kernel
theorem dX0_isTrue_72 : decode cX0_isTrue 72 = .ok (.ireturn, 1) := by decide +kernel
theorem dX0_isTrue_73 : decode cX0_isTrue 73 = .ok (.iload_n 2, 1) := by decide +kernel
theorem dX0_isTrue_74 : decode cX0_isTrue 74 = .ok (.iload 4, 2) := by decide +kernel
theorem dX0_isTrue_76 : decode cX0_isTrue 76 = .ok (.invokestatic 37, 3) := by decide +kernel
theorem dX0_isTrue_79 : decode cX0_isTrue 79 = .ok (.iload 5, 2) := by decide +kernel
theorem dX0_isTrue_81 : decode cX0_isTrue 81 = .ok (.if_icmp .ne 7, 3) := by decide +kernel
theorem dX0_isTrue_84 : decode cX0_isTrue 84 = .ok (.iconst 1, 1) := by decide +kernel
theorem dX0_isTrue_85 : decode cX0_isTrue 85 = .ok (.goto 4, 3) := by decide +kernel
theorem dX0_isTrue_88 : decode cX0_isTrue 88 = .ok (.iconst 0, 1) := by decide +kernel
theorem dX0_isTrue_89 : decode cX0_isTrue 89 = .ok (.ireturn, 1) := by decide +kernel
theorem dX0_isTrue_90 : decode cX0_isTrue 90 = .ok (.iload_n 2, 1) := by decide +kernel
theorem dX0_isTrue_91 : decode cX0_isTrue 91 = .ok (.iload 4, 2) := by decide +kernel
theorem dX0_isTrue_93 : decode cX0_isTrue 93 = .ok (.invokestatic 37, 3) := by decide +kernel
theorem dX0_isTrue_96 : decode cX0_isTrue 96 = .ok (.iload 5, 2) := by decide +kernel
theorem dX0_isTrue_98 : decode cX0_isTrue 98 = .ok (.if_icmp .gt 7, 3) := by decide +kernel
theorem dX0_isTrue_101 : decode cX0_isTrue 101 = .ok (.iconst 1, 1) := by decide +kernel
theorem dX0_isTrue_102 : decode cX0_isTrue 102 = .ok (.goto 4, 3) := by decide +kernel
theorem dX0_isTrue_105 : decode cX0_isTrue 105 = .ok (.iconst 0, 1) := by decide +kernel
theorem dX0_isTrue_106 : decode cX0_isTrue 106 = .ok (.ireturn, 1) := by decide +kernel
theorem dX0_isTrue_107 : decode cX0_isTrue 107 = .ok (.iload_n 3, 1) := by decide +kernel
theorem dX0_isTrue_108 : decode cX0_isTrue 108 = .ok (.iload 4, 2) := by decide +kernel
theorem dX0_isTrue_110 : decode cX0_isTrue 110 = .ok (.invokestatic 29, 3) := by decide +kernel
theorem dX0_isTrue_113 : decode cX0_isTrue 113 = .ok (.ifCond .ne 7, 3) := by decide +kernel
theorem dX0_isTrue_116 : decode cX0_isTrue 116 = .ok (.iconst 1, 1) := by decide +kernel
theorem dX0_isTrue_117 : decode cX0_isTrue 117 = .ok (.goto 4, 3) := by decide +kernel
theorem dX0_isTrue_120 : decode cX0_isTrue 120 = .ok (.iconst 0, 1) := by decide +kernel
theorem dX0_isTrue_121 : decode cX0_isTrue 121 = .ok (.ireturn, 1) := by decide +kernel
theorem dX0_isTrue_122 : decode cX0_isTrue 122 = .ok (.iload_n 3, 1) := by decide +kernel
theorem dX0_isTrue_123 : decode cX0_isTrue 123 = .ok (.iload 4, 2) := by decide +kernel
theorem dX0_isTrue_125 : decode cX0_isTrue 125 = .ok (.invokestatic 29, 3) := by decide +kernel
theorem dX0_isTrue_128 : decode cX0_isTrue 128 = .ok (.ifCond .eq 16, 3) := by decide +kernel
theorem dX0_isTrue_131 : decode cX0_isTrue 131 = .ok (.iload_n 3, 1) := by decide +kernel
theorem dX0_isTrue_132 : decode cX0_isTrue 132 = .ok (.iload 5, 2) := by decide +kernel
theorem dX0_isTrue_134 : decode cX0_isTrue 134 = .ok (.invokestatic 29, 3) := by decide +kernel
theorem dX0_isTrue_137 : decode cX0_isTrue 137 = .ok (.ifCond .eq 7, 3) := by decide +kernel
theorem dX0_isTrue_140 : decode cX0_isTrue 140 = .ok (.iconst 1, 1) := by decide +kernel
theorem dX0_isTrue_141 : decode cX0_isTrue 141 = .ok (.goto 4, 3) := by decide +kernel
theorem dX0_isTrue_144 : decode cX0_isTrue 144 = .ok (.iconst 0, 1) := by decide +kernel
theorem dX0_isTrue_145 : decode cX0_isTrue 145 = .ok (.ireturn, 1) := by decide +kernel
theorem dX0_isTrue_146 : decode cX0_isTrue 146 = .ok (.iload_n 3, 1) := by decide +kernel
theorem dX0_isTrue_147 : decode cX0_isTrue 147 = .ok (.iload 4, 2) := by decide +kernel
theorem dX0_isTrue_149 : decode cX0_isTrue 149 = .ok (.invokestatic 29, 3) := by decide +kernel
theorem dX0_isTrue_152 : decode cX0_isTrue 152 = .ok (.ifCond .ne 12, 3) := by decide +kernel
theorem dX0_isTrue_155 : decode cX0_isTrue 155 = .ok (.iload_n 3, 1) := by decide +kernel
theorem dX0_isTrue_156 : decode cX0_isTrue 156 = .ok (.iload 5, 2) := by decide +kernel
theorem dX0_isTrue_158 : decode cX0_isTrue 158 = .ok (.invokestatic 29, 3) := by decide +kernel
theorem dX0_isTrue_161 : decode cX0_isTrue 161 = .ok (.ifCond .eq 7, 3) := by decide +kernel
theorem dX0_isTrue_164 : decode cX0_isTrue 164 = .ok (.iconst 1, 1) := by decide +kernel
theorem dX0_isTrue_165 : decode cX0_isTrue 165 = .ok (.goto 4, 3) := by decide +kernel
theorem dX0_isTrue_168 : decode cX0_isTrue 168 = .ok (.iconst 0, 1) := by decide +kernel
theorem dX0_isTrue_169 : decode cX0_isTrue 169 = .ok (.ireturn, 1) := by decide +kernel
theorem dX0_isKnown_0 : decode cX0_isKnown 0 = .ok (.iload_n 0, 1) := by decide +kernel
theorem dX0_isKnown_1 : decode cX0_isKnown 1 = .ok (.iload_n 1, 1) := by decide +kernel
theorem dX0_isKnown_2 : decode cX0_isKnown 2 = .ok (.iushr, 1) := by decide +kernel
theorem dX0_isKnown_3 : decode cX0_isKnown 3 = .ok (.iconst 1, 1) := by decide +kernel
theorem dX0_isKnown_4 : decode cX0_isKnown 4 = .ok (.iand, 1) := by decide +kernel
theorem dX0_isKnown_5 : decode cX0_isKnown 5 = .ok (.ifCond .eq 7, 3) := by decide +kernel
theorem dX0_isKnown_8 : decode cX0_isKnown 8 = .ok (.iconst 1, 1) := by decide +kernel
theorem dX0_isKnown_9 : decode cX0_isKnown 9 = .ok (.goto 4, 3) := by decide +kernel
theorem dX0_isKnown_12 : decode cX0_isKnown 12 = .ok (.iconst 0, 1) := by decide +kernel
theorem dX0_isKnown_13 : decode cX0_isKnown 13 = .ok (.ireturn, 1) := by decide +kernel
theorem dX1_init_0 : decode cX1_init 0 = .ok (.aload_n 0, 1) := by decide +kernel
theorem dX1_init_1 : decode cX1_init 1 = .ok (.invokespecial 3, 3) := by decide +kernel
theorem dX1_init_4 : decode cX1_init 4 = .ok (.aload_n 0, 1) := by decide +kernel
theorem dX1_init_5 : decode cX1_init 5 = .ok (.iload_n 1, 1) := by decide +kernel
theorem dX1_init_6 : decode cX1_init 6 = .ok (.putfield 9, 3) := by decide +kernel
theorem dX1_init_9 : decode cX1_init 9 = .ok (.aload_n 0, 1) := by decide +kernel
theorem dX1_init_10 : decode cX1_init 10 = .ok (.iload_n 2, 1) := by decide +kernel
theorem dX1_init_11 : decode cX1_init 11 = .ok (.putfield 15, 3) := by decide +kernel
theorem dX1_init_14 : decode cX1_init 14 = .ok (.aload_n 0, 1) := by decide +kernel
theorem dX1_init_15 : decode cX1_init 15 = .ok (.iload_n 3, 1) := by decide +kernel
theorem dX1_init_16 : decode cX1_init 16 = .ok (.putfield 18, 3) := by decide +kernel
theorem dX1_init_19 : decode cX1_init 19 = .ok (.aload_n 0, 1) := by decide +kernel
theorem dX1_init_20 : decode cX1_init 20 = .ok (.iload 4, 2) := by decide +kernel
theorem dX1_init_22 : decode cX1_init 22 = .ok (.putfield 21, 3) := by decide +kernel
theorem dX1_init_25 : decode cX1_init 25 = .ok (.aload_n 0, 1) := by decide +kernel
theorem dX1_init_26 : decode cX1_init 26 = .ok (.iload 5, 2) := by decide +kernel
theorem dX1_init_28 : decode cX1_init 28 = .ok (.putfield 24, 3) := by decide +kernel
theorem dX1_init_31 : decode cX1_init 31 = .ok (.return_, 1) := by decide +kernel
theorem dX1_setGuard_0 : decode cX1_setGuard 0 = .ok (.aload_n 0, 1) := by decide +kernel
theorem dX1_setGuard_1 : decode cX1_setGuard 1 = .ok (.getfield 27, 3) := by decide +kernel
theorem dX1_setGuard_4 : decode cX1_setGuard 4 = .ok (.istore 4, 2) := by decide +kernel
theorem dX1_setGuard_6 : decode cX1_setGuard 6 = .ok (.aload_n 0, 1) := by decide +kernel
theorem dX1_setGuard_7 : decode cX1_setGuard 7 = .ok (.iload_n 1, 1) := by decide +kernel
theorem dX1_setGuard_8 : decode cX1_setGuard 8 = .ok (.putfield 27, 3) := by decide +kernel
theorem dX1_setGuard_11 : decode cX1_setGuard 11 = .ok (.aload_n 0, 1) := by decide +kernel
theorem dX1_setGuard_12 : decode cX1_setGuard 12 = .ok (.iload_n 2, 1) := by decide +kernel
theorem dX1_setGuard_13 : decode cX1_setGuard 13 = .ok (.putfield 30, 3) := by decide +kernel
theorem dX1_setGuard_16 : decode cX1_setGuard 16 = .ok (.aload_n 0, 1) := by decide +kernel
theorem dX1_setGuard_17 : decode cX1_setGuard 17 = .ok (.iload_n 3, 1) := by decide +kernel
theorem dX1_setGuard_18 : decode cX1_setGuard 18 = .ok (.putfield 33, 3) := by decide +kernel
theorem dX1_setGuard_21 : decode cX1_setGuard 21 = .ok (.iload 4, 2) := by decide +kernel
theorem dX1_setGuard_23 : decode cX1_setGuard 23 = .ok (.ireturn, 1) := by decide +kernel
theorem dX1_setDeed_0 : decode cX1_setDeed 0 = .ok (.aload_n 0, 1) := by decide +kernel
theorem dX1_setDeed_1 : decode cX1_setDeed 1 = .ok (.getfield 36, 3) := by decide +kernel
theorem dX1_setDeed_4 : decode cX1_setDeed 4 = .ok (.istore 5, 2) := by decide +kernel
theorem dX1_setDeed_6 : decode cX1_setDeed 6 = .ok (.aload_n 0, 1) := by decide +kernel
theorem dX1_setDeed_7 : decode cX1_setDeed 7 = .ok (.iload_n 1, 1) := by decide +kernel
theorem dX1_setDeed_8 : decode cX1_setDeed 8 = .ok (.putfield 36, 3) := by decide +kernel
theorem dX1_setDeed_11 : decode cX1_setDeed 11 = .ok (.aload_n 0, 1) := by decide +kernel
theorem dX1_setDeed_12 : decode cX1_setDeed 12 = .ok (.iload_n 2, 1) := by decide +kernel
theorem dX1_setDeed_13 : decode cX1_setDeed 13 = .ok (.putfield 39, 3) := by decide +kernel
theorem dX1_setDeed_16 : decode cX1_setDeed 16 = .ok (.aload_n 0, 1) := by decide +kernel
theorem dX1_setDeed_17 : decode cX1_setDeed 17 = .ok (.iload_n 3, 1) := by decide +kernel
theorem dX1_setDeed_18 : decode cX1_setDeed 18 = .ok (.putfield 42, 3) := by decide +kernel
theorem dX1_setDeed_21 : decode cX1_setDeed 21 = .ok (.aload_n 0, 1) := by decide +kernel
theorem dX1_setDeed_22 : decode cX1_setDeed 22 = .ok (.iload 4, 2) := by decide +kernel
theorem dX1_setDeed_24 : decode cX1_setDeed 24 = .ok (.putfield 45, 3) := by decide +kernel
theorem dX1_setDeed_27 : decode cX1_setDeed 27 = .ok (.iload 5, 2) := by decide +kernel
theorem dX1_setDeed_29 : decode cX1_setDeed 29 = .ok (.ireturn, 1) := by decide +kernel
theorem dX1_isOpenIn_0 : decode cX1_isOpenIn 0 = .ok (.iload_n 1, 1) := by decide +kernel
theorem dX1_isOpenIn_1 : decode cX1_isOpenIn 1 = .ok (.aload_n 0, 1) := by decide +kernel
theorem dX1_isOpenIn_2 : decode cX1_isOpenIn 2 = .ok (.getfield 9, 3) := by decide +kernel
theorem dX1_isOpenIn_5 : decode cX1_isOpenIn 5 = .ok (.invokestatic 48, 3) := by decide +kernel
theorem dX1_isOpenIn_8 : decode cX1_isOpenIn 8 = .ok (.aload_n 0, 1) := by decide +kernel
theorem dX1_isOpenIn_9 : decode cX1_isOpenIn 9 = .ok (.getfield 18, 3) := by decide +kernel
theorem dX1_isOpenIn_12 : decode cX1_isOpenIn 12 = .ok (.if_icmp .ne 23, 3) := by decide +kernel
theorem dX1_isOpenIn_15 : decode cX1_isOpenIn 15 = .ok (.aload_n 0, 1) := by decide +kernel
theorem dX1_isOpenIn_16 : decode cX1_isOpenIn 16 = .ok (.iload_n 1, 1) := by decide +kernel
theorem dX1_isOpenIn_17 : decode cX1_isOpenIn 17 = .ok (.invokevirtual 52, 3) := by decide +kernel
theorem dX1_isOpenIn_20 : decode cX1_isOpenIn 20 = .ok (.ifCond .eq 15, 3) := by decide +kernel
theorem dX1_isOpenIn_23 : decode cX1_isOpenIn 23 = .ok (.aload_n 0, 1) := by decide +kernel
theorem dX1_isOpenIn_24 : decode cX1_isOpenIn 24 = .ok (.iload_n 1, 1) := by decide +kernel
theorem dX1_isOpenIn_25 : decode cX1_isOpenIn 25 = .ok (.invokevirtual 56, 3) := by decide +kernel
theorem dX1_isOpenIn_28 : decode cX1_isOpenIn 28 = .ok (.ifCond .lt 7, 3) := by decide +kernel
theorem dX1_isOpenIn_31 : decode cX1_isOpenIn 31 = .ok (.iconst 1, 1) := by decide +kernel
theorem dX1_isOpenIn_32 : decode cX1_isOpenIn 32 = .ok (.goto 4, 3) := by decide +kernel
theorem dX1_isOpenIn_35 : decode cX1_isOpenIn 35 = .ok (.iconst 0, 1) := by decide +kernel
theorem dX1_isOpenIn_36 : decode cX1_isOpenIn 36 = .ok (.ireturn, 1) := by decide +kernel
theorem dX1_guardAllows_0 : decode cX1_guardAllows 0 = .ok (.aload_n 0, 1) := by decide +kernel
theorem dX1_guardAllows_1 : decode cX1_guardAllows 1 = .ok (.getfield 27, 3) := by decide +kernel
theorem dX1_guardAllows_4 : decode cX1_guardAllows 4 = .ok (.tableswitch 116 1 4 #[32, 53, 74, 95], 32) := by decide +kernel
theorem dX1_guardAllows_36 : decode cX1_guardAllows 36 = .ok (.iload_n 1, 1) := by decide +kernel
theorem dX1_guardAllows_37 : decode cX1_guardAllows 37 = .ok (.aload_n 0, 1) := by decide +kernel
theorem dX1_guardAllows_38 : decode cX1_guardAllows 38 = .ok (.getfield 30, 3) := by decide +kernel
theorem dX1_guardAllows_41 : decode cX1_guardAllows 41 = .ok (.invokestatic 60, 3) := by decide +kernel
theorem dX1_guardAllows_44 : decode cX1_guardAllows 44 = .ok (.aload_n 0, 1) := by decide +kernel
theorem dX1_guardAllows_45 : decode cX1_guardAllows 45 = .ok (.getfield 33, 3) := by decide +kernel
theorem dX1_guardAllows_48 : decode cX1_guardAllows 48 = .ok (.if_icmp .ne 7, 3) := by decide +kernel
theorem dX1_guardAllows_51 : decode cX1_guardAllows 51 = .ok (.iconst 1, 1) := by decide +kernel
theorem dX1_guardAllows_52 : decode cX1_guardAllows 52 = .ok (.goto 4, 3) := by decide +kernel
theorem dX1_guardAllows_55 : decode cX1_guardAllows 55 = .ok (.iconst 0, 1) := by decide +kernel
theorem dX1_guardAllows_56 : decode cX1_guardAllows 56 = .ok (.ireturn, 1) := by decide +kernel
theorem dX1_guardAllows_57 : decode cX1_guardAllows 57 = .ok (.iload_n 1, 1) := by decide +kernel
theorem dX1_guardAllows_58 : decode cX1_guardAllows 58 = .ok (.aload_n 0, 1) := by decide +kernel
theorem dX1_guardAllows_59 : decode cX1_guardAllows 59 = .ok (.getfield 30, 3) := by decide +kernel
theorem dX1_guardAllows_62 : decode cX1_guardAllows 62 = .ok (.invokestatic 60, 3) := by decide +kernel
theorem dX1_guardAllows_65 : decode cX1_guardAllows 65 = .ok (.aload_n 0, 1) := by decide +kernel
theorem dX1_guardAllows_66 : decode cX1_guardAllows 66 = .ok (.getfield 33, 3) := by decide +kernel
theorem dX1_guardAllows_69 : decode cX1_guardAllows 69 = .ok (.if_icmp .eq 7, 3) := by decide +kernel
theorem dX1_guardAllows_72 : decode cX1_guardAllows 72 = .ok (.iconst 1, 1) := by decide +kernel
theorem dX1_guardAllows_73 : decode cX1_guardAllows 73 = .ok (.goto 4, 3) := by decide +kernel
theorem dX1_guardAllows_76 : decode cX1_guardAllows 76 = .ok (.iconst 0, 1) := by decide +kernel
theorem dX1_guardAllows_77 : decode cX1_guardAllows 77 = .ok (.ireturn, 1) := by decide +kernel
theorem dX1_guardAllows_78 : decode cX1_guardAllows 78 = .ok (.iload_n 1, 1) := by decide +kernel
theorem dX1_guardAllows_79 : decode cX1_guardAllows 79 = .ok (.aload_n 0, 1) := by decide +kernel
theorem dX1_guardAllows_80 : decode cX1_guardAllows 80 = .ok (.getfield 30, 3) := by decide +kernel
theorem dX1_guardAllows_83 : decode cX1_guardAllows 83 = .ok (.invokestatic 60, 3) := by decide +kernel
theorem dX1_guardAllows_86 : decode cX1_guardAllows 86 = .ok (.aload_n 0, 1) := by decide +kernel
theorem dX1_guardAllows_87 : decode cX1_guardAllows 87 = .ok (.getfield 33, 3) := by decide +kernel
theorem dX1_guardAllows_90 : decode cX1_guardAllows 90 = .ok (.if_icmp .ge 7, 3) := by decide +kernel
theorem dX1_guardAllows_93 : decode cX1_guardAllows 93 = .ok (.iconst 1, 1) := by decide +kernel
theorem dX1_guardAllows_94 : decode cX1_guardAllows 94 = .ok (.goto 4, 3) := by decide +kernel
theorem dX1_guardAllows_97 : decode cX1_guardAllows 97 = .ok (.iconst 0, 1) := by decide +kernel
theorem dX1_guardAllows_98 : decode cX1_guardAllows 98 = .ok (.ireturn, 1) := by decide +kernel
theorem dX1_guardAllows_99 : decode cX1_guardAllows 99 = .ok (.iload_n 1, 1) := by decide +kernel
theorem dX1_guardAllows_100 : decode cX1_guardAllows 100 = .ok (.aload_n 0, 1) := by decide +kernel
theorem dX1_guardAllows_101 : decode cX1_guardAllows 101 = .ok (.getfield 30, 3) := by decide +kernel
theorem dX1_guardAllows_104 : decode cX1_guardAllows 104 = .ok (.invokestatic 60, 3) := by decide +kernel
theorem dX1_guardAllows_107 : decode cX1_guardAllows 107 = .ok (.aload_n 0, 1) := by decide +kernel
theorem dX1_guardAllows_108 : decode cX1_guardAllows 108 = .ok (.getfield 33, 3) := by decide +kernel
theorem dX1_guardAllows_111 : decode cX1_guardAllows 111 = .ok (.if_icmp .le 7, 3) := by decide +kernel
theorem dX1_guardAllows_114 : decode cX1_guardAllows 114 = .ok (.iconst 1, 1) := by decide +kernel
theorem dX1_guardAllows_115 : decode cX1_guardAllows 115 = .ok (.goto 4, 3) := by decide +kernel
theorem dX1_guardAllows_118 : decode cX1_guardAllows 118 = .ok (.iconst 0, 1) := by decide +kernel
theorem dX1_guardAllows_119 : decode cX1_guardAllows 119 = .ok (.ireturn, 1) := by decide +kernel
theorem dX1_guardAllows_120 : decode cX1_guardAllows 120 = .ok (.iconst 1, 1) := by decide +kernel
theorem dX1_guardAllows_121 : decode cX1_guardAllows 121 = .ok (.ireturn, 1) := by decide +kernel
theorem dX1_afterDeed_0 : decode cX1_afterDeed 0 = .ok (.aload_n 0, 1) := by decide +kernel
theorem dX1_afterDeed_1 : decode cX1_afterDeed 1 = .ok (.getfield 36, 3) := by decide +kernel
theorem dX1_afterDeed_4 : decode cX1_afterDeed 4 = .ok (.ifCond .ne 5, 3) := by decide +kernel
theorem dX1_afterDeed_7 : decode cX1_afterDeed 7 = .ok (.iload_n 1, 1) := by decide +kernel
theorem dX1_afterDeed_8 : decode cX1_afterDeed 8 = .ok (.ireturn, 1) := by decide +kernel
theorem dX1_afterDeed_9 : decode cX1_afterDeed 9 = .ok (.aload_n 0, 1) := by decide +kernel
theorem dX1_afterDeed_10 : decode cX1_afterDeed 10 = .ok (.getfield 36, 3) := by decide +kernel
theorem dX1_afterDeed_13 : decode cX1_afterDeed 13 = .ok (.iconst 1, 1) := by decide +kernel
theorem dX1_afterDeed_14 : decode cX1_afterDeed 14 = .ok (.if_icmp .ne 10, 3) := by decide +kernel
theorem dX1_afterDeed_17 : decode cX1_afterDeed 17 = .ok (.aload_n 0, 1) := by decide +kernel
theorem dX1_afterDeed_18 : decode cX1_afterDeed 18 = .ok (.getfield 42, 3) := by decide +kernel
theorem dX1_afterDeed_21 : decode cX1_afterDeed 21 = .ok (.goto 16, 3) := by decide +kernel
theorem dX1_afterDeed_24 : decode cX1_afterDeed 24 = .ok (.iload_n 1, 1) := by decide +kernel
theorem dX1_afterDeed_25 : decode cX1_afterDeed 25 = .ok (.aload_n 0, 1) := by decide +kernel
theorem dX1_afterDeed_26 : decode cX1_afterDeed 26 = .ok (.getfield 39, 3) := by decide +kernel
theorem dX1_afterDeed_29 : decode cX1_afterDeed 29 = .ok (.invokestatic 60, 3) := by decide +kernel
theorem dX1_afterDeed_32 : decode cX1_afterDeed 32 = .ok (.aload_n 0, 1) := by decide +kernel
theorem dX1_afterDeed_33 : decode cX1_afterDeed 33 = .ok (.getfield 42, 3) := by decide +kernel
theorem dX1_afterDeed_36 : decode cX1_afterDeed 36 = .ok (.iadd, 1) := by decide +kernel
theorem dX1_afterDeed_37 : decode cX1_afterDeed 37 = .ok (.istore_n 2, 1) := by decide +kernel
theorem dX1_afterDeed_38 : decode cX1_afterDeed 38 = .ok (.iload_n 2, 1) := by decide +kernel
theorem dX1_afterDeed_39 : decode cX1_afterDeed 39 = .ok (.iconst 0, 1) := by decide +kernel
theorem dX1_afterDeed_40 : decode cX1_afterDeed 40 = .ok (.aload_n 0, 1) := by decide +kernel
theorem dX1_afterDeed_41 : decode cX1_afterDeed 41 = .ok (.getfield 45, 3) := by decide +kernel
theorem dX1_afterDeed_44 : decode cX1_afterDeed 44 = .ok (.invokestatic 63, 3) := by decide +kernel
theorem dX1_afterDeed_47 : decode cX1_afterDeed 47 = .ok (.ifCond .eq 15, 3) := by decide +kernel
theorem dX1_afterDeed_50 : decode cX1_afterDeed 50 = .ok (.iload_n 1, 1) := by decide +kernel
theorem dX1_afterDeed_51 : decode cX1_afterDeed 51 = .ok (.aload_n 0, 1) := by decide +kernel
theorem dX1_afterDeed_52 : decode cX1_afterDeed 52 = .ok (.getfield 39, 3) := by decide +kernel
theorem dX1_afterDeed_55 : decode cX1_afterDeed 55 = .ok (.iload_n 2, 1) := by decide +kernel
theorem dX1_afterDeed_56 : decode cX1_afterDeed 56 = .ok (.invokestatic 67, 3) := by decide +kernel
theorem dX1_afterDeed_59 : decode cX1_afterDeed 59 = .ok (.goto 4, 3) := by decide +kernel
theorem dX1_afterDeed_62 : decode cX1_afterDeed 62 = .ok (.iconst (-1), 1) := by decide +kernel
theorem dX1_afterDeed_63 : decode cX1_afterDeed 63 = .ok (.ireturn, 1) := by decide +kernel
theorem dX1_afterGoing_0 : decode cX1_afterGoing 0 = .ok (.iload_n 1, 1) := by decide +kernel
theorem dX1_afterGoing_1 : decode cX1_afterGoing 1 = .ok (.aload_n 0, 1) := by decide +kernel
theorem dX1_afterGoing_2 : decode cX1_afterGoing 2 = .ok (.getfield 9, 3) := by decide +kernel
theorem dX1_afterGoing_5 : decode cX1_afterGoing 5 = .ok (.aload_n 0, 1) := by decide +kernel
theorem dX1_afterGoing_6 : decode cX1_afterGoing 6 = .ok (.getfield 21, 3) := by decide +kernel
theorem dX1_afterGoing_9 : decode cX1_afterGoing 9 = .ok (.invokestatic 71, 3) := by decide +kernel
theorem dX1_afterGoing_12 : decode cX1_afterGoing 12 = .ok (.ireturn, 1) := by decide +kernel
theorem dX2_init_0 : decode cX2_init 0 = .ok (.aload_n 0, 1) := by decide +kernel
theorem dX2_init_1 : decode cX2_init 1 = .ok (.invokespecial 3, 3) := by decide +kernel
theorem dX2_init_4 : decode cX2_init 4 = .ok (.aload_n 0, 1) := by decide +kernel
theorem dX2_init_5 : decode cX2_init 5 = .ok (.iconst 5, 1) := by decide +kernel
theorem dX2_init_6 : decode cX2_init 6 = .ok (.newarray .int, 2) := by decide +kernel
theorem dX2_init_8 : decode cX2_init 8 = .ok (.putfield 9, 3) := by decide +kernel
theorem dX2_init_11 : decode cX2_init 11 = .ok (.aload_n 0, 1) := by decide +kernel
theorem dX2_init_12 : decode cX2_init 12 = .ok (.iconst 5, 1) := by decide +kernel
theorem dX2_init_13 : decode cX2_init 13 = .ok (.newarray .int, 2) := by decide +kernel
theorem dX2_init_15 : decode cX2_init 15 = .ok (.putfield 15, 3) := by decide +kernel
theorem dX2_init_18 : decode cX2_init 18 = .ok (.aload_n 0, 1) := by decide +kernel
theorem dX2_init_19 : decode cX2_init 19 = .ok (.bipush 80, 2) := by decide +kernel
theorem dX2_init_21 : decode cX2_init 21 = .ok (.anewarray 18, 3) := by decide +kernel
theorem dX2_init_24 : decode cX2_init 24 = .ok (.putfield 20, 3) := by decide +kernel
theorem dX2_init_27 : decode cX2_init 27 = .ok (.aload_n 0, 1) := by decide +kernel
theorem dX2_init_28 : decode cX2_init 28 = .ok (.iconst 4, 1) := by decide +kernel
theorem dX2_init_29 : decode cX2_init 29 = .ok (.newarray .int, 2) := by decide +kernel
theorem dX2_init_31 : decode cX2_init 31 = .ok (.putfield 24, 3) := by decide +kernel
theorem dX2_init_34 : decode cX2_init 34 = .ok (.aload_n 0, 1) := by decide +kernel
theorem dX2_init_35 : decode cX2_init 35 = .ok (.iconst 4, 1) := by decide +kernel
theorem dX2_init_36 : decode cX2_init 36 = .ok (.newarray .int, 2) := by decide +kernel
theorem dX2_init_38 : decode cX2_init 38 = .ok (.putfield 27, 3) := by decide +kernel
theorem dX2_init_41 : decode cX2_init 41 = .ok (.return_, 1) := by decide +kernel
theorem dX2_hasProcess_0 : decode cX2_hasProcess 0 = .ok (.iload_n 1, 1) := by decide +kernel
theorem dX2_hasProcess_1 : decode cX2_hasProcess 1 = .ok (.ifCond .lt 15, 3) := by decide +kernel
theorem dX2_hasProcess_4 : decode cX2_hasProcess 4 = .ok (.iload_n 1, 1) := by decide +kernel
theorem dX2_hasProcess_5 : decode cX2_hasProcess 5 = .ok (.aload_n 0, 1) := by decide +kernel
theorem dX2_hasProcess_6 : decode cX2_hasProcess 6 = .ok (.getfield 30, 3) := by decide +kernel
theorem dX2_hasProcess_9 : decode cX2_hasProcess 9 = .ok (.if_icmp .ge 7, 3) := by decide +kernel
theorem dX2_hasProcess_12 : decode cX2_hasProcess 12 = .ok (.iconst 1, 1) := by decide +kernel
theorem dX2_hasProcess_13 : decode cX2_hasProcess 13 = .ok (.goto 4, 3) := by decide +kernel
theorem dX2_hasProcess_16 : decode cX2_hasProcess 16 = .ok (.iconst 0, 1) := by decide +kernel
theorem dX2_hasProcess_17 : decode cX2_hasProcess 17 = .ok (.ireturn, 1) := by decide +kernel
theorem dX2_hasLocation_0 : decode cX2_hasLocation 0 = .ok (.aload_n 0, 1) := by decide +kernel
theorem dX2_hasLocation_1 : decode cX2_hasLocation 1 = .ok (.iload_n 1, 1) := by decide +kernel
theorem dX2_hasLocation_2 : decode cX2_hasLocation 2 = .ok (.invokevirtual 34, 3) := by decide +kernel
theorem dX2_hasLocation_5 : decode cX2_hasLocation 5 = .ok (.ifCond .eq 21, 3) := by decide +kernel
theorem dX2_hasLocation_8 : decode cX2_hasLocation 8 = .ok (.iload_n 2, 1) := by decide +kernel
theorem dX2_hasLocation_9 : decode cX2_hasLocation 9 = .ok (.ifCond .lt 17, 3) := by decide +kernel
theorem dX2_hasLocation_12 : decode cX2_hasLocation 12 = .ok (.iload_n 2, 1) := by decide +kernel
theorem dX2_hasLocation_13 : decode cX2_hasLocation 13 = .ok (.aload_n 0, 1) := by decide +kernel
theorem dX2_hasLocation_14 : decode cX2_hasLocation 14 = .ok (.getfield 9, 3) := by decide +kernel
theorem dX2_hasLocation_17 : decode cX2_hasLocation 17 = .ok (.iload_n 1, 1) := by decide +kernel
theorem dX2_hasLocation_18 : decode cX2_hasLocation 18 = .ok (.iaload, 1) := by decide +kernel
theorem dX2_hasLocation_19 : decode cX2_hasLocation 19 = .ok (.if_icmp .ge 7, 3) := by decide +kernel
theorem dX2_hasLocation_22 : decode cX2_hasLocation 22 = .ok (.iconst 1, 1) := by decide +kernel
theorem dX2_hasLocation_23 : decode cX2_hasLocation 23 = .ok (.goto 4, 3) := by decide +kernel
theorem dX2_hasLocation_26 : decode cX2_hasLocation 26 = .ok (.iconst 0, 1) := by decide +kernel
theorem dX2_hasLocation_27 : decode cX2_hasLocation 27 = .ok (.ireturn, 1) := by decide +kernel
theorem dX2_hasVariable_0 : decode cX2_hasVariable 0 = .ok (.iload_n 1, 1) := by decide +kernel
theorem dX2_hasVariable_1 : decode cX2_hasVariable 1 = .ok (.ifCond .lt 15, 3) := by decide +kernel
theorem dX2_hasVariable_4 : decode cX2_hasVariable 4 = .ok (.iload_n 1, 1) := by decide +kernel
theorem dX2_hasVariable_5 : decode cX2_hasVariable 5 = .ok (.aload_n 0, 1) := by decide +kernel
theorem dX2_hasVariable_6 : decode cX2_hasVariable 6 = .ok (.getfield 38, 3) := by decide +kernel
theorem dX2_hasVariable_9 : decode cX2_hasVariable 9 = .ok (.if_icmp .ge 7, 3) := by decide +kernel
theorem dX2_hasVariable_12 : decode cX2_hasVariable 12 = .ok (.iconst 1, 1) := by decide +kernel
theorem dX2_hasVariable_13 : decode cX2_hasVariable 13 = .ok (.goto 4, 3) := by decide +kernel
theorem dX2_hasVariable_16 : decode cX2_hasVariable 16 = .ok (.iconst 0, 1) := by decide +kernel
theorem dX2_hasVariable_17 : decode cX2_hasVariable 17 = .ok (.ireturn, 1) := by decide +kernel
theorem dX2_greatestOf_0 : decode cX2_greatestOf 0 = .ok (.aload_n 0, 1) := by decide +kernel
theorem dX2_greatestOf_1 : decode cX2_greatestOf 1 = .ok (.iload_n 1, 1) := by decide +kernel
theorem dX2_greatestOf_2 : decode cX2_greatestOf 2 = .ok (.invokevirtual 41, 3) := by decide +kernel
theorem dX2_greatestOf_5 : decode cX2_greatestOf 5 = .ok (.ifCond .eq 12, 3) := by decide +kernel
theorem dX2_greatestOf_8 : decode cX2_greatestOf 8 = .ok (.aload_n 0, 1) := by decide +kernel
theorem dX2_greatestOf_9 : decode cX2_greatestOf 9 = .ok (.getfield 24, 3) := by decide +kernel
theorem dX2_greatestOf_12 : decode cX2_greatestOf 12 = .ok (.iload_n 1, 1) := by decide +kernel
theorem dX2_greatestOf_13 : decode cX2_greatestOf 13 = .ok (.iaload, 1) := by decide +kernel
theorem dX2_greatestOf_14 : decode cX2_greatestOf 14 = .ok (.goto 4, 3) := by decide +kernel
theorem dX2_greatestOf_17 : decode cX2_greatestOf 17 = .ok (.iconst 0, 1) := by decide +kernel
theorem dX2_greatestOf_18 : decode cX2_greatestOf 18 = .ok (.ireturn, 1) := by decide +kernel
theorem dX2_movesOf_0 : decode cX2_movesOf 0 = .ok (.aload_n 0, 1) := by decide +kernel
theorem dX2_movesOf_1 : decode cX2_movesOf 1 = .ok (.iload_n 1, 1) := by decide +kernel
theorem dX2_movesOf_2 : decode cX2_movesOf 2 = .ok (.invokevirtual 34, 3) := by decide +kernel
theorem dX2_movesOf_5 : decode cX2_movesOf 5 = .ok (.ifCond .eq 12, 3) := by decide +kernel
theorem dX2_movesOf_8 : decode cX2_movesOf 8 = .ok (.aload_n 0, 1) := by decide +kernel
theorem dX2_movesOf_9 : decode cX2_movesOf 9 = .ok (.getfield 15, 3) := by decide +kernel
theorem dX2_movesOf_12 : decode cX2_movesOf 12 = .ok (.iload_n 1, 1) := by decide +kernel
theorem dX2_movesOf_13 : decode cX2_movesOf 13 = .ok (.iaload, 1) := by decide +kernel
theorem dX2_movesOf_14 : decode cX2_movesOf 14 = .ok (.goto 4, 3) := by decide +kernel
theorem dX2_movesOf_17 : decode cX2_movesOf 17 = .ok (.iconst 0, 1) := by decide +kernel
theorem dX2_movesOf_18 : decode cX2_movesOf 18 = .ok (.ireturn, 1) := by decide +kernel
theorem dX2_find_0 : decode cX2_find 0 = .ok (.iload_n 2, 1) := by decide +kernel
theorem dX2_find_1 : decode cX2_find 1 = .ok (.ifCond .lt 12, 3) := by decide +kernel
theorem dX2_find_4 : decode cX2_find 4 = .ok (.iload_n 2, 1) := by decide +kernel
theorem dX2_find_5 : decode cX2_find 5 = .ok (.aload_n 0, 1) := by decide +kernel
theorem dX2_find_6 : decode cX2_find 6 = .ok (.iload_n 1, 1) := by decide +kernel
theorem dX2_find_7 : decode cX2_find 7 = .ok (.invokevirtual 44, 3) := by decide +kernel
theorem dX2_find_10 : decode cX2_find 10 = .ok (.if_icmp .lt 5, 3) := by decide +kernel
theorem dX2_find_13 : decode cX2_find 13 = .ok (.aconst_null, 1) := by decide +kernel
theorem dX2_find_14 : decode cX2_find 14 = .ok (.areturn, 1) := by decide +kernel
theorem dX2_find_15 : decode cX2_find 15 = .ok (.aload_n 0, 1) := by decide +kernel
theorem dX2_find_16 : decode cX2_find 16 = .ok (.getfield 20, 3) := by decide +kernel
theorem dX2_find_19 : decode cX2_find 19 = .ok (.iload_n 1, 1) := by decide +kernel
theorem dX2_find_20 : decode cX2_find 20 = .ok (.bipush 16, 2) := by decide +kernel
theorem dX2_find_22 : decode cX2_find 22 = .ok (.imul, 1) := by decide +kernel
theorem dX2_find_23 : decode cX2_find 23 = .ok (.iload_n 2, 1) := by decide +kernel
theorem dX2_find_24 : decode cX2_find 24 = .ok (.iadd, 1) := by decide +kernel
theorem dX2_find_25 : decode cX2_find 25 = .ok (.aaload, 1) := by decide +kernel
theorem dX2_find_26 : decode cX2_find 26 = .ok (.areturn, 1) := by decide +kernel
theorem dX2_newProcess_0 : decode cX2_newProcess 0 = .ok (.aload_n 0, 1) := by decide +kernel
theorem dX2_newProcess_1 : decode cX2_newProcess 1 = .ok (.getfield 9, 3) := by decide +kernel
theorem dX2_newProcess_4 : decode cX2_newProcess 4 = .ok (.aload_n 0, 1) := by decide +kernel
theorem dX2_newProcess_5 : decode cX2_newProcess 5 = .ok (.getfield 30, 3) := by decide +kernel
theorem dX2_newProcess_8 : decode cX2_newProcess 8 = .ok (.iload_n 1, 1) := by decide +kernel
theorem dX2_newProcess_9 : decode cX2_newProcess 9 = .ok (.iastore, 1) := by decide +kernel
theorem dX2_newProcess_10 : decode cX2_newProcess 10 = .ok (.aload_n 0, 1) := by decide +kernel
theorem dX2_newProcess_11 : decode cX2_newProcess 11 = .ok (.dup, 1) := by decide +kernel
theorem dX2_newProcess_12 : decode cX2_newProcess 12 = .ok (.getfield 30, 3) := by decide +kernel
theorem dX2_newProcess_15 : decode cX2_newProcess 15 = .ok (.iconst 1, 1) := by decide +kernel
theorem dX2_newProcess_16 : decode cX2_newProcess 16 = .ok (.iadd, 1) := by decide +kernel
theorem dX2_newProcess_17 : decode cX2_newProcess 17 = .ok (.putfield 30, 3) := by decide +kernel
theorem dX2_newProcess_20 : decode cX2_newProcess 20 = .ok (.aload_n 0, 1) := by decide +kernel
theorem dX2_newProcess_21 : decode cX2_newProcess 21 = .ok (.getfield 30, 3) := by decide +kernel
theorem dX2_newProcess_24 : decode cX2_newProcess 24 = .ok (.iconst 1, 1) := by decide +kernel
theorem dX2_newProcess_25 : decode cX2_newProcess 25 = .ok (.isub, 1) := by decide +kernel
theorem dX2_newProcess_26 : decode cX2_newProcess 26 = .ok (.ireturn, 1) := by decide +kernel
theorem dX2_newVariable_0 : decode cX2_newVariable 0 = .ok (.aload_n 0, 1) := by decide +kernel
theorem dX2_newVariable_1 : decode cX2_newVariable 1 = .ok (.getfield 24, 3) := by decide +kernel
theorem dX2_newVariable_4 : decode cX2_newVariable 4 = .ok (.aload_n 0, 1) := by decide +kernel
theorem dX2_newVariable_5 : decode cX2_newVariable 5 = .ok (.getfield 38, 3) := by decide +kernel
theorem dX2_newVariable_8 : decode cX2_newVariable 8 = .ok (.iload_n 1, 1) := by decide +kernel
theorem dX2_newVariable_9 : decode cX2_newVariable 9 = .ok (.iastore, 1) := by decide +kernel
theorem dX2_newVariable_10 : decode cX2_newVariable 10 = .ok (.aload_n 0, 1) := by decide +kernel
theorem dX2_newVariable_11 : decode cX2_newVariable 11 = .ok (.getfield 27, 3) := by decide +kernel
theorem dX2_newVariable_14 : decode cX2_newVariable 14 = .ok (.aload_n 0, 1) := by decide +kernel
theorem dX2_newVariable_15 : decode cX2_newVariable 15 = .ok (.getfield 38, 3) := by decide +kernel
theorem dX2_newVariable_18 : decode cX2_newVariable 18 = .ok (.iload_n 2, 1) := by decide +kernel
theorem dX2_newVariable_19 : decode cX2_newVariable 19 = .ok (.iastore, 1) := by decide +kernel
theorem dX2_newVariable_20 : decode cX2_newVariable 20 = .ok (.aload_n 0, 1) := by decide +kernel
theorem dX2_newVariable_21 : decode cX2_newVariable 21 = .ok (.dup, 1) := by decide +kernel
theorem dX2_newVariable_22 : decode cX2_newVariable 22 = .ok (.getfield 38, 3) := by decide +kernel
theorem dX2_newVariable_25 : decode cX2_newVariable 25 = .ok (.iconst 1, 1) := by decide +kernel
theorem dX2_newVariable_26 : decode cX2_newVariable 26 = .ok (.iadd, 1) := by decide +kernel
theorem dX2_newVariable_27 : decode cX2_newVariable 27 = .ok (.putfield 38, 3) := by decide +kernel
theorem dX2_newVariable_30 : decode cX2_newVariable 30 = .ok (.aload_n 0, 1) := by decide +kernel
theorem dX2_newVariable_31 : decode cX2_newVariable 31 = .ok (.getfield 38, 3) := by decide +kernel
theorem dX2_newVariable_34 : decode cX2_newVariable 34 = .ok (.iconst 1, 1) := by decide +kernel
theorem dX2_newVariable_35 : decode cX2_newVariable 35 = .ok (.isub, 1) := by decide +kernel
theorem dX2_newVariable_36 : decode cX2_newVariable 36 = .ok (.ireturn, 1) := by decide +kernel
theorem dX2_newMove_0 : decode cX2_newMove 0 = .ok (.aload_n 0, 1) := by decide +kernel
theorem dX2_newMove_1 : decode cX2_newMove 1 = .ok (.getfield 15, 3) := by decide +kernel
theorem dX2_newMove_4 : decode cX2_newMove 4 = .ok (.iload_n 1, 1) := by decide +kernel
theorem dX2_newMove_5 : decode cX2_newMove 5 = .ok (.iaload, 1) := by decide +kernel
theorem dX2_newMove_6 : decode cX2_newMove 6 = .ok (.istore 5, 2) := by decide +kernel
theorem dX2_newMove_8 : decode cX2_newMove 8 = .ok (.aload_n 0, 1) := by decide +kernel
theorem dX2_newMove_9 : decode cX2_newMove 9 = .ok (.getfield 20, 3) := by decide +kernel
theorem dX2_newMove_12 : decode cX2_newMove 12 = .ok (.iload_n 1, 1) := by decide +kernel
theorem dX2_newMove_13 : decode cX2_newMove 13 = .ok (.bipush 16, 2) := by decide +kernel
theorem dX2_newMove_15 : decode cX2_newMove 15 = .ok (.imul, 1) := by decide +kernel
theorem dX2_newMove_16 : decode cX2_newMove 16 = .ok (.iload 5, 2) := by decide +kernel
theorem dX2_newMove_18 : decode cX2_newMove 18 = .ok (.iadd, 1) := by decide +kernel
theorem dX2_newMove_19 : decode cX2_newMove 19 = .ok (.new 18, 3) := by decide +kernel
theorem dX2_newMove_22 : decode cX2_newMove 22 = .ok (.dup, 1) := by decide +kernel
theorem dX2_newMove_23 : decode cX2_newMove 23 = .ok (.iload_n 1, 1) := by decide +kernel
theorem dX2_newMove_24 : decode cX2_newMove 24 = .ok (.iload 5, 2) := by decide +kernel
theorem dX2_newMove_26 : decode cX2_newMove 26 = .ok (.iload_n 2, 1) := by decide +kernel
theorem dX2_newMove_27 : decode cX2_newMove 27 = .ok (.iload_n 3, 1) := by decide +kernel
theorem dX2_newMove_28 : decode cX2_newMove 28 = .ok (.iload 4, 2) := by decide +kernel
theorem dX2_newMove_30 : decode cX2_newMove 30 = .ok (.invokespecial 48, 3) := by decide +kernel
theorem dX2_newMove_33 : decode cX2_newMove 33 = .ok (.aastore, 1) := by decide +kernel
theorem dX2_newMove_34 : decode cX2_newMove 34 = .ok (.aload_n 0, 1) := by decide +kernel
theorem dX2_newMove_35 : decode cX2_newMove 35 = .ok (.getfield 15, 3) := by decide +kernel
theorem dX2_newMove_38 : decode cX2_newMove 38 = .ok (.iload_n 1, 1) := by decide +kernel
theorem dX2_newMove_39 : decode cX2_newMove 39 = .ok (.iload 5, 2) := by decide +kernel
theorem dX2_newMove_41 : decode cX2_newMove 41 = .ok (.iconst 1, 1) := by decide +kernel
theorem dX2_newMove_42 : decode cX2_newMove 42 = .ok (.iadd, 1) := by decide +kernel
theorem dX2_newMove_43 : decode cX2_newMove 43 = .ok (.iastore, 1) := by decide +kernel
theorem dX2_newMove_44 : decode cX2_newMove 44 = .ok (.iload 5, 2) := by decide +kernel
theorem dX2_newMove_46 : decode cX2_newMove 46 = .ok (.ireturn, 1) := by decide +kernel
theorem dX2_keyAtBeginning_0 : decode cX2_keyAtBeginning 0 = .ok (.iconst 0, 1) := by decide +kernel
theorem dX2_keyAtBeginning_1 : decode cX2_keyAtBeginning 1 = .ok (.istore_n 1, 1) := by decide +kernel
theorem dX2_keyAtBeginning_2 : decode cX2_keyAtBeginning 2 = .ok (.iconst 0, 1) := by decide +kernel
theorem dX2_keyAtBeginning_3 : decode cX2_keyAtBeginning 3 = .ok (.istore_n 2, 1) := by decide +kernel
theorem dX2_keyAtBeginning_4 : decode cX2_keyAtBeginning 4 = .ok (.iload_n 2, 1) := by decide +kernel
theorem dX2_keyAtBeginning_5 : decode cX2_keyAtBeginning 5 = .ok (.aload_n 0, 1) := by decide +kernel
theorem dX2_keyAtBeginning_6 : decode cX2_keyAtBeginning 6 = .ok (.getfield 38, 3) := by decide +kernel
theorem dX2_keyAtBeginning_9 : decode cX2_keyAtBeginning 9 = .ok (.if_icmp .ge 21, 3) := by decide +kernel
theorem dX2_keyAtBeginning_12 : decode cX2_keyAtBeginning 12 = .ok (.iload_n 1, 1) := by decide +kernel
theorem dX2_keyAtBeginning_13 : decode cX2_keyAtBeginning 13 = .ok (.iload_n 2, 1) := by decide +kernel
theorem dX2_keyAtBeginning_14 : decode cX2_keyAtBeginning 14 = .ok (.aload_n 0, 1) := by decide +kernel
theorem dX2_keyAtBeginning_15 : decode cX2_keyAtBeginning 15 = .ok (.getfield 27, 3) := by decide +kernel
theorem dX2_keyAtBeginning_18 : decode cX2_keyAtBeginning 18 = .ok (.iload_n 2, 1) := by decide +kernel
theorem dX2_keyAtBeginning_19 : decode cX2_keyAtBeginning 19 = .ok (.iaload, 1) := by decide +kernel
theorem dX2_keyAtBeginning_20 : decode cX2_keyAtBeginning 20 = .ok (.invokestatic 51, 3) := by decide +kernel
theorem dX2_keyAtBeginning_23 : decode cX2_keyAtBeginning 23 = .ok (.istore_n 1, 1) := by decide +kernel
theorem dX2_keyAtBeginning_24 : decode cX2_keyAtBeginning 24 = .ok (.iinc 2 1, 3) := by decide +kernel
theorem dX2_keyAtBeginning_27 : decode cX2_keyAtBeginning 27 = .ok (.goto (-23), 3) := by decide +kernel
theorem dX2_keyAtBeginning_30 : decode cX2_keyAtBeginning 30 = .ok (.iload_n 1, 1) := by decide +kernel
theorem dX2_keyAtBeginning_31 : decode cX2_keyAtBeginning 31 = .ok (.ireturn, 1) := by decide +kernel
theorem dX3_init_0 : decode cX3_init 0 = .ok (.aload_n 0, 1) := by decide +kernel
theorem dX3_init_1 : decode cX3_init 1 = .ok (.invokespecial 5, 3) := by decide +kernel
theorem dX3_init_4 : decode cX3_init 4 = .ok (.aload_n 0, 1) := by decide +kernel
theorem dX3_init_5 : decode cX3_init 5 = .ok (.sipush 400, 3) := by decide +kernel
theorem dX3_init_8 : decode cX3_init 8 = .ok (.newarray .int, 2) := by decide +kernel
theorem dX3_init_10 : decode cX3_init 10 = .ok (.putfield 11, 3) := by decide +kernel
theorem dX3_init_13 : decode cX3_init 13 = .ok (.aload_n 0, 1) := by decide +kernel
theorem dX3_init_14 : decode cX3_init 14 = .ok (.sipush 400, 3) := by decide +kernel
theorem dX3_init_17 : decode cX3_init 17 = .ok (.newarray .int, 2) := by decide +kernel
theorem dX3_init_19 : decode cX3_init 19 = .ok (.putfield 15, 3) := by decide +kernel
theorem dX3_init_22 : decode cX3_init 22 = .ok (.aload_n 0, 1) := by decide +kernel
theorem dX3_init_23 : decode cX3_init 23 = .ok (.sipush 400, 3) := by decide +kernel
theorem dX3_init_26 : decode cX3_init 26 = .ok (.newarray .int, 2) := by decide +kernel
theorem dX3_init_28 : decode cX3_init 28 = .ok (.putfield 18, 3) := by decide +kernel
theorem dX3_init_31 : decode cX3_init 31 = .ok (.aload_n 0, 1) := by decide +kernel
theorem dX3_init_32 : decode cX3_init 32 = .ok (.sipush 400, 3) := by decide +kernel
theorem dX3_init_35 : decode cX3_init 35 = .ok (.newarray .int, 2) := by decide +kernel
theorem dX3_init_37 : decode cX3_init 37 = .ok (.putfield 21, 3) := by decide +kernel
theorem dX3_init_40 : decode cX3_init 40 = .ok (.aload_n 0, 1) := by decide +kernel
theorem dX3_init_41 : decode cX3_init 41 = .ok (.sipush 400, 3) := by decide +kernel
theorem dX3_init_44 : decode cX3_init 44 = .ok (.newarray .int, 2) := by decide +kernel
theorem dX3_init_46 : decode cX3_init 46 = .ok (.putfield 24, 3) := by decide +kernel
theorem dX3_init_49 : decode cX3_init 49 = .ok (.aload_n 0, 1) := by decide +kernel
theorem dX3_init_50 : decode cX3_init 50 = .ok (.sipush 401, 3) := by decide +kernel
theorem dX3_init_53 : decode cX3_init 53 = .ok (.newarray .int, 2) := by decide +kernel
theorem dX3_init_55 : decode cX3_init 55 = .ok (.putfield 27, 3) := by decide +kernel
theorem dX3_init_58 : decode cX3_init 58 = .ok (.aload_n 0, 1) := by decide +kernel
theorem dX3_init_59 : decode cX3_init 59 = .ok (.sipush 1024, 3) := by decide +kernel
theorem dX3_init_62 : decode cX3_init 62 = .ok (.newarray .int, 2) := by decide +kernel
theorem dX3_init_64 : decode cX3_init 64 = .ok (.putfield 30, 3) := by decide +kernel
theorem dX3_init_67 : decode cX3_init 67 = .ok (.aload_n 0, 1) := by decide +kernel
theorem dX3_init_68 : decode cX3_init 68 = .ok (.sipush 2048, 3) := by decide +kernel
theorem dX3_init_71 : decode cX3_init 71 = .ok (.newarray .int, 2) := by decide +kernel
theorem dX3_init_73 : decode cX3_init 73 = .ok (.putfield 33, 3) := by decide +kernel
theorem dX3_init_76 : decode cX3_init 76 = .ok (.return_, 1) := by decide +kernel
theorem dX3_isExplored_0 : decode cX3_isExplored 0 = .ok (.aload_n 0, 1) := by decide +kernel
theorem dX3_isExplored_1 : decode cX3_isExplored 1 = .ok (.getfield 36, 3) := by decide +kernel
theorem dX3_isExplored_4 : decode cX3_isExplored 4 = .ok (.ifCond .le 7, 3) := by decide +kernel
theorem dX3_isExplored_7 : decode cX3_isExplored 7 = .ok (.iconst 1, 1) := by decide +kernel
theorem dX3_isExplored_8 : decode cX3_isExplored 8 = .ok (.goto 4, 3) := by decide +kernel
theorem dX3_isExplored_11 : decode cX3_isExplored 11 = .ok (.iconst 0, 1) := by decide +kernel
theorem dX3_isExplored_12 : decode cX3_isExplored 12 = .ok (.ireturn, 1) := by decide +kernel
theorem dX3_hasState_0 : decode cX3_hasState 0 = .ok (.iload_n 1, 1) := by decide +kernel
theorem dX3_hasState_1 : decode cX3_hasState 1 = .ok (.ifCond .lt 15, 3) := by decide +kernel
theorem dX3_hasState_4 : decode cX3_hasState 4 = .ok (.iload_n 1, 1) := by decide +kernel
theorem dX3_hasState_5 : decode cX3_hasState 5 = .ok (.aload_n 0, 1) := by decide +kernel
theorem dX3_hasState_6 : decode cX3_hasState 6 = .ok (.getfield 36, 3) := by decide +kernel
theorem dX3_hasState_9 : decode cX3_hasState 9 = .ok (.if_icmp .ge 7, 3) := by decide +kernel
theorem dX3_hasState_12 : decode cX3_hasState 12 = .ok (.iconst 1, 1) := by decide +kernel
theorem dX3_hasState_13 : decode cX3_hasState 13 = .ok (.goto 4, 3) := by decide +kernel
theorem dX3_hasState_16 : decode cX3_hasState 16 = .ok (.iconst 0, 1) := by decide +kernel
theorem dX3_hasState_17 : decode cX3_hasState 17 = .ok (.ireturn, 1) := by decide +kernel
theorem dX3_keyOf_0 : decode cX3_keyOf 0 = .ok (.aload_n 0, 1) := by decide +kernel
theorem dX3_keyOf_1 : decode cX3_keyOf 1 = .ok (.getfield 11, 3) := by decide +kernel
theorem dX3_keyOf_4 : decode cX3_keyOf 4 = .ok (.iload_n 1, 1) := by decide +kernel
theorem dX3_keyOf_5 : decode cX3_keyOf 5 = .ok (.iaload, 1) := by decide +kernel
theorem dX3_keyOf_6 : decode cX3_keyOf 6 = .ok (.ireturn, 1) := by decide +kernel
theorem dX3_depthOf_0 : decode cX3_depthOf 0 = .ok (.aload_n 0, 1) := by decide +kernel
theorem dX3_depthOf_1 : decode cX3_depthOf 1 = .ok (.getfield 15, 3) := by decide +kernel
theorem dX3_depthOf_4 : decode cX3_depthOf 4 = .ok (.iload_n 1, 1) := by decide +kernel
theorem dX3_depthOf_5 : decode cX3_depthOf 5 = .ok (.iaload, 1) := by decide +kernel
theorem dX3_depthOf_6 : decode cX3_depthOf 6 = .ok (.ireturn, 1) := by decide +kernel
theorem dX3_parentOf_0 : decode cX3_parentOf 0 = .ok (.aload_n 0, 1) := by decide +kernel
theorem dX3_parentOf_1 : decode cX3_parentOf 1 = .ok (.getfield 18, 3) := by decide +kernel
theorem dX3_parentOf_4 : decode cX3_parentOf 4 = .ok (.iload_n 1, 1) := by decide +kernel
theorem dX3_parentOf_5 : decode cX3_parentOf 5 = .ok (.iaload, 1) := by decide +kernel
theorem dX3_parentOf_6 : decode cX3_parentOf 6 = .ok (.ireturn, 1) := by decide +kernel
theorem dX3_parentStepOf_0 : decode cX3_parentStepOf 0 = .ok (.aload_n 0, 1) := by decide +kernel
theorem dX3_parentStepOf_1 : decode cX3_parentStepOf 1 = .ok (.getfield 21, 3) := by decide +kernel
theorem dX3_parentStepOf_4 : decode cX3_parentStepOf 4 = .ok (.iload_n 1, 1) := by decide +kernel
theorem dX3_parentStepOf_5 : decode cX3_parentStepOf 5 = .ok (.iaload, 1) := by decide +kernel
theorem dX3_parentStepOf_6 : decode cX3_parentStepOf 6 = .ok (.ireturn, 1) := by decide +kernel
theorem dX3_stepsOf_0 : decode cX3_stepsOf 0 = .ok (.aload_n 0, 1) := by decide +kernel
theorem dX3_stepsOf_1 : decode cX3_stepsOf 1 = .ok (.getfield 27, 3) := by decide +kernel
theorem dX3_stepsOf_4 : decode cX3_stepsOf 4 = .ok (.iload_n 1, 1) := by decide +kernel
theorem dX3_stepsOf_5 : decode cX3_stepsOf 5 = .ok (.iconst 1, 1) := by decide +kernel
theorem dX3_stepsOf_6 : decode cX3_stepsOf 6 = .ok (.iadd, 1) := by decide +kernel
theorem dX3_stepsOf_7 : decode cX3_stepsOf 7 = .ok (.iaload, 1) := by decide +kernel
theorem dX3_stepsOf_8 : decode cX3_stepsOf 8 = .ok (.aload_n 0, 1) := by decide +kernel
theorem dX3_stepsOf_9 : decode cX3_stepsOf 9 = .ok (.getfield 27, 3) := by decide +kernel
theorem dX3_stepsOf_12 : decode cX3_stepsOf 12 = .ok (.iload_n 1, 1) := by decide +kernel
theorem dX3_stepsOf_13 : decode cX3_stepsOf 13 = .ok (.iaload, 1) := by decide +kernel
theorem dX3_stepsOf_14 : decode cX3_stepsOf 14 = .ok (.isub, 1) := by decide +kernel
theorem dX3_stepsOf_15 : decode cX3_stepsOf 15 = .ok (.ireturn, 1) := by decide +kernel
theorem dX3_packedStep_0 : decode cX3_packedStep 0 = .ok (.aload_n 0, 1) := by decide +kernel
theorem dX3_packedStep_1 : decode cX3_packedStep 1 = .ok (.getfield 33, 3) := by decide +kernel
theorem dX3_packedStep_4 : decode cX3_packedStep 4 = .ok (.aload_n 0, 1) := by decide +kernel
theorem dX3_packedStep_5 : decode cX3_packedStep 5 = .ok (.getfield 27, 3) := by decide +kernel
theorem dX3_packedStep_8 : decode cX3_packedStep 8 = .ok (.iload_n 1, 1) := by decide +kernel
theorem dX3_packedStep_9 : decode cX3_packedStep 9 = .ok (.iaload, 1) := by decide +kernel
theorem dX3_packedStep_10 : decode cX3_packedStep 10 = .ok (.iload_n 2, 1) := by decide +kernel
theorem dX3_packedStep_11 : decode cX3_packedStep 11 = .ok (.iadd, 1) := by decide +kernel
theorem dX3_packedStep_12 : decode cX3_packedStep 12 = .ok (.iaload, 1) := by decide +kernel
theorem dX3_packedStep_13 : decode cX3_packedStep 13 = .ok (.ireturn, 1) := by decide +kernel
theorem dX3_takersIn_0 : decode cX3_takersIn 0 = .ok (.aload_n 0, 1) := by decide +kernel
theorem dX3_takersIn_1 : decode cX3_takersIn 1 = .ok (.getfield 24, 3) := by decide +kernel
theorem dX3_takersIn_4 : decode cX3_takersIn 4 = .ok (.iload_n 1, 1) := by decide +kernel
theorem dX3_takersIn_5 : decode cX3_takersIn 5 = .ok (.iaload, 1) := by decide +kernel
theorem dX3_takersIn_6 : decode cX3_takersIn 6 = .ok (.ireturn, 1) := by decide +kernel
theorem dX3_onTheWay_0 : decode cX3_onTheWay 0 = .ok (.iload_n 1, 1) := by decide +kernel
theorem dX3_onTheWay_1 : decode cX3_onTheWay 1 = .ok (.istore_n 3, 1) := by decide +kernel
theorem dX3_onTheWay_2 : decode cX3_onTheWay 2 = .ok (.aload_n 0, 1) := by decide +kernel
theorem dX3_onTheWay_3 : decode cX3_onTheWay 3 = .ok (.getfield 15, 3) := by decide +kernel
theorem dX3_onTheWay_6 : decode cX3_onTheWay 6 = .ok (.iload_n 1, 1) := by decide +kernel
theorem dX3_onTheWay_7 : decode cX3_onTheWay 7 = .ok (.iaload, 1) := by decide +kernel
theorem dX3_onTheWay_8 : decode cX3_onTheWay 8 = .ok (.istore 4, 2) := by decide +kernel
theorem dX3_onTheWay_10 : decode cX3_onTheWay 10 = .ok (.iload 4, 2) := by decide +kernel
theorem dX3_onTheWay_12 : decode cX3_onTheWay 12 = .ok (.iload_n 2, 1) := by decide +kernel
theorem dX3_onTheWay_13 : decode cX3_onTheWay 13 = .ok (.if_icmp .le 16, 3) := by decide +kernel
theorem dX3_onTheWay_16 : decode cX3_onTheWay 16 = .ok (.aload_n 0, 1) := by decide +kernel
theorem dX3_onTheWay_17 : decode cX3_onTheWay 17 = .ok (.getfield 18, 3) := by decide +kernel
theorem dX3_onTheWay_20 : decode cX3_onTheWay 20 = .ok (.iload_n 3, 1) := by decide +kernel
theorem dX3_onTheWay_21 : decode cX3_onTheWay 21 = .ok (.iaload, 1) := by decide +kernel
theorem dX3_onTheWay_22 : decode cX3_onTheWay 22 = .ok (.istore_n 3, 1) := by decide +kernel
theorem dX3_onTheWay_23 : decode cX3_onTheWay 23 = .ok (.iinc 4 (-1), 3) := by decide +kernel
theorem dX3_onTheWay_26 : decode cX3_onTheWay 26 = .ok (.goto (-16), 3) := by decide +kernel
theorem dX3_onTheWay_29 : decode cX3_onTheWay 29 = .ok (.iload_n 3, 1) := by decide +kernel
theorem dX3_onTheWay_30 : decode cX3_onTheWay 30 = .ok (.ireturn, 1) := by decide +kernel
theorem dX3_partOf_0 : decode cX3_partOf 0 = .ok (.iload_n 1, 1) := by decide +kernel
theorem dX3_partOf_1 : decode cX3_partOf 1 = .ok (.tableswitch 63 0 3 #[31, 37, 45, 53], 31) := by decide +kernel
theorem dX3_partOf_32 : decode cX3_partOf 32 = .ok (.iload_n 0, 1) := by decide +kernel
theorem dX3_partOf_33 : decode cX3_partOf 33 = .ok (.sipush 511, 3) := by decide +kernel
theorem dX3_partOf_36 : decode cX3_partOf 36 = .ok (.iand, 1) := by decide +kernel
theorem dX3_partOf_37 : decode cX3_partOf 37 = .ok (.ireturn, 1) := by decide +kernel
theorem dX3_partOf_38 : decode cX3_partOf 38 = .ok (.iload_n 0, 1) := by decide +kernel
theorem dX3_partOf_39 : decode cX3_partOf 39 = .ok (.bipush 9, 2) := by decide +kernel
theorem dX3_partOf_41 : decode cX3_partOf 41 = .ok (.iushr, 1) := by decide +kernel
theorem dX3_partOf_42 : decode cX3_partOf 42 = .ok (.bipush 7, 2) := by decide +kernel
theorem dX3_partOf_44 : decode cX3_partOf 44 = .ok (.iand, 1) := by decide +kernel
theorem dX3_partOf_45 : decode cX3_partOf 45 = .ok (.ireturn, 1) := by decide +kernel
theorem dX3_partOf_46 : decode cX3_partOf 46 = .ok (.iload_n 0, 1) := by decide +kernel
theorem dX3_partOf_47 : decode cX3_partOf 47 = .ok (.bipush 12, 2) := by decide +kernel
theorem dX3_partOf_49 : decode cX3_partOf 49 = .ok (.iushr, 1) := by decide +kernel
theorem dX3_partOf_50 : decode cX3_partOf 50 = .ok (.bipush 15, 2) := by decide +kernel
theorem dX3_partOf_52 : decode cX3_partOf 52 = .ok (.iand, 1) := by decide +kernel
theorem dX3_partOf_53 : decode cX3_partOf 53 = .ok (.ireturn, 1) := by decide +kernel
theorem dX3_partOf_54 : decode cX3_partOf 54 = .ok (.iload_n 0, 1) := by decide +kernel
theorem dX3_partOf_55 : decode cX3_partOf 55 = .ok (.bipush 16, 2) := by decide +kernel
theorem dX3_partOf_57 : decode cX3_partOf 57 = .ok (.iushr, 1) := by decide +kernel
theorem dX3_partOf_58 : decode cX3_partOf 58 = .ok (.bipush 7, 2) := by decide +kernel
theorem dX3_partOf_60 : decode cX3_partOf 60 = .ok (.iand, 1) := by decide +kernel
theorem dX3_partOf_61 : decode cX3_partOf 61 = .ok (.iconst 1, 1) := by decide +kernel
theorem dX3_partOf_62 : decode cX3_partOf 62 = .ok (.isub, 1) := by decide +kernel
theorem dX3_partOf_63 : decode cX3_partOf 63 = .ok (.ireturn, 1) := by decide +kernel
theorem dX3_partOf_64 : decode cX3_partOf 64 = .ok (.iload_n 0, 1) := by decide +kernel
theorem dX3_partOf_65 : decode cX3_partOf 65 = .ok (.bipush 19, 2) := by decide +kernel
theorem dX3_partOf_67 : decode cX3_partOf 67 = .ok (.iushr, 1) := by decide +kernel
theorem dX3_partOf_68 : decode cX3_partOf 68 = .ok (.bipush 31, 2) := by decide +kernel
theorem dX3_partOf_70 : decode cX3_partOf 70 = .ok (.iand, 1) := by decide +kernel
theorem dX3_partOf_71 : decode cX3_partOf 71 = .ok (.iconst 1, 1) := by decide +kernel
theorem dX3_partOf_72 : decode cX3_partOf 72 = .ok (.isub, 1) := by decide +kernel
theorem dX3_partOf_73 : decode cX3_partOf 73 = .ok (.ireturn, 1) := by decide +kernel
theorem dX3_takersOf_0 : decode cX3_takersOf 0 = .ok (.iload_n 0, 1) := by decide +kernel
theorem dX3_takersOf_1 : decode cX3_takersOf 1 = .ok (.iconst 3, 1) := by decide +kernel
theorem dX3_takersOf_2 : decode cX3_takersOf 2 = .ok (.invokestatic 40, 3) := by decide +kernel
theorem dX3_takersOf_5 : decode cX3_takersOf 5 = .ok (.istore_n 1, 1) := by decide +kernel
theorem dX3_takersOf_6 : decode cX3_takersOf 6 = .ok (.iconst 1, 1) := by decide +kernel
theorem dX3_takersOf_7 : decode cX3_takersOf 7 = .ok (.iload_n 0, 1) := by decide +kernel
theorem dX3_takersOf_8 : decode cX3_takersOf 8 = .ok (.iconst 1, 1) := by decide +kernel
theorem dX3_takersOf_9 : decode cX3_takersOf 9 = .ok (.invokestatic 40, 3) := by decide +kernel
theorem dX3_takersOf_12 : decode cX3_takersOf 12 = .ok (.ishl, 1) := by decide +kernel
theorem dX3_takersOf_13 : decode cX3_takersOf 13 = .ok (.iload_n 1, 1) := by decide +kernel
theorem dX3_takersOf_14 : decode cX3_takersOf 14 = .ok (.ifCond .ge 7, 3) := by decide +kernel
theorem dX3_takersOf_17 : decode cX3_takersOf 17 = .ok (.iconst 0, 1) := by decide +kernel
theorem dX3_takersOf_18 : decode cX3_takersOf 18 = .ok (.goto 6, 3) := by decide +kernel
theorem dX3_takersOf_21 : decode cX3_takersOf 21 = .ok (.iconst 1, 1) := by decide +kernel
theorem dX3_takersOf_22 : decode cX3_takersOf 22 = .ok (.iload_n 1, 1) := by decide +kernel
theorem dX3_takersOf_23 : decode cX3_takersOf 23 = .ok (.ishl, 1) := by decide +kernel
theorem dX3_takersOf_24 : decode cX3_takersOf 24 = .ok (.ior, 1) := by decide +kernel
theorem dX3_takersOf_25 : decode cX3_takersOf 25 = .ok (.ireturn, 1) := by decide +kernel
theorem dX3_forget_0 : decode cX3_forget 0 = .ok (.aload_n 0, 1) := by decide +kernel
theorem dX3_forget_1 : decode cX3_forget 1 = .ok (.iconst 0, 1) := by decide +kernel
theorem dX3_forget_2 : decode cX3_forget 2 = .ok (.putfield 36, 3) := by decide +kernel
theorem dX3_forget_5 : decode cX3_forget 5 = .ok (.aload_n 0, 1) := by decide +kernel
theorem dX3_forget_6 : decode cX3_forget 6 = .ok (.iconst 0, 1) := by decide +kernel
theorem dX3_forget_7 : decode cX3_forget 7 = .ok (.putfield 44, 3) := by decide +kernel
theorem dX3_forget_10 : decode cX3_forget 10 = .ok (.aload_n 0, 1) := by decide +kernel
theorem dX3_forget_11 : decode cX3_forget 11 = .ok (.iconst 0, 1) := by decide +kernel
theorem dX3_forget_12 : decode cX3_forget 12 = .ok (.putfield 47, 3) := by decide +kernel
theorem dX3_forget_15 : decode cX3_forget 15 = .ok (.return_, 1) := by decide +kernel
theorem dX3_fill_0 : decode cX3_fill 0 = .ok (.aload_n 0, 1) := by decide +kernel
theorem dX3_fill_1 : decode cX3_fill 1 = .ok (.invokevirtual 51, 3) := by decide +kernel
theorem dX3_fill_4 : decode cX3_fill 4 = .ok (.aload_n 0, 1) := by decide +kernel
theorem dX3_fill_5 : decode cX3_fill 5 = .ok (.getfield 30, 3) := by decide +kernel
theorem dX3_fill_8 : decode cX3_fill 8 = .ok (.iconst (-1), 1) := by decide +kernel
theorem dX3_fill_9 : decode cX3_fill 9 = .ok (.invokestatic 54, 3) := by decide +kernel
theorem dX3_fill_12 : decode cX3_fill 12 = .ok (.aload_n 1, 1) := by decide +kernel
theorem dX3_fill_13 : decode cX3_fill 13 = .ok (.invokevirtual 60, 3) := by decide +kernel
theorem dX3_fill_16 : decode cX3_fill 16 = .ok (.istore_n 2, 1) := by decide +kernel
theorem dX3_fill_17 : decode cX3_fill 17 = .ok (.aload_n 0, 1) := by decide +kernel
theorem dX3_fill_18 : decode cX3_fill 18 = .ok (.iload_n 2, 1) := by decide +kernel
theorem dX3_fill_19 : decode cX3_fill 19 = .ok (.aload_n 0, 1) := by decide +kernel
theorem dX3_fill_20 : decode cX3_fill 20 = .ok (.iload_n 2, 1) := by decide +kernel
theorem dX3_fill_21 : decode cX3_fill 21 = .ok (.invokevirtual 66, 3) := by decide +kernel
theorem dX3_fill_24 : decode cX3_fill 24 = .ok (.iconst 0, 1) := by decide +kernel
theorem dX3_fill_25 : decode cX3_fill 25 = .ok (.iconst 0, 1) := by decide +kernel
theorem dX3_fill_26 : decode cX3_fill 26 = .ok (.invokevirtual 70, 3) := by decide +kernel
theorem dX3_fill_29 : decode cX3_fill 29 = .ok (.iconst 0, 1) := by decide +kernel
theorem dX3_fill_30 : decode cX3_fill 30 = .ok (.istore_n 3, 1) := by decide +kernel
theorem dX3_fill_31 : decode cX3_fill 31 = .ok (.iload_n 3, 1) := by decide +kernel
theorem dX3_fill_32 : decode cX3_fill 32 = .ok (.aload_n 0, 1) := by decide +kernel
theorem dX3_fill_33 : decode cX3_fill 33 = .ok (.getfield 36, 3) := by decide +kernel
theorem dX3_fill_36 : decode cX3_fill 36 = .ok (.if_icmp .ge 29, 3) := by decide +kernel
theorem dX3_fill_39 : decode cX3_fill 39 = .ok (.iload_n 3, 1) := by decide +kernel
theorem dX3_fill_40 : decode cX3_fill 40 = .ok (.sipush 400, 3) := by decide +kernel
theorem dX3_fill_43 : decode cX3_fill 43 = .ok (.if_icmp .ge 22, 3) := by decide +kernel
theorem dX3_fill_46 : decode cX3_fill 46 = .ok (.aload_n 0, 1) := by decide +kernel
theorem dX3_fill_47 : decode cX3_fill 47 = .ok (.getfield 47, 3) := by decide +kernel
theorem dX3_fill_50 : decode cX3_fill 50 = .ok (.ifCond .ne 15, 3) := by decide +kernel
theorem dX3_fill_53 : decode cX3_fill 53 = .ok (.aload_n 0, 1) := by decide +kernel
theorem dX3_fill_54 : decode cX3_fill 54 = .ok (.iload_n 3, 1) := by decide +kernel
theorem dX3_fill_55 : decode cX3_fill 55 = .ok (.aload_n 1, 1) := by decide +kernel
theorem dX3_fill_56 : decode cX3_fill 56 = .ok (.invokevirtual 74, 3) := by decide +kernel
theorem dX3_fill_59 : decode cX3_fill 59 = .ok (.iinc 3 1, 3) := by decide +kernel
theorem dX3_fill_62 : decode cX3_fill 62 = .ok (.goto (-31), 3) := by decide +kernel
theorem dX3_fill_65 : decode cX3_fill 65 = .ok (.aload_n 0, 1) := by decide +kernel
theorem dX3_fill_66 : decode cX3_fill 66 = .ok (.getfield 47, 3) := by decide +kernel
theorem dX3_fill_69 : decode cX3_fill 69 = .ok (.ifCond .eq 9, 3) := by decide +kernel
theorem dX3_fill_72 : decode cX3_fill 72 = .ok (.aload_n 0, 1) := by decide +kernel
theorem dX3_fill_73 : decode cX3_fill 73 = .ok (.invokevirtual 51, 3) := by decide +kernel
theorem dX3_fill_76 : decode cX3_fill 76 = .ok (.iconst (-1), 1) := by decide +kernel
theorem dX3_fill_77 : decode cX3_fill 77 = .ok (.ireturn, 1) := by decide +kernel
theorem dX3_fill_78 : decode cX3_fill 78 = .ok (.aload_n 0, 1) := by decide +kernel
theorem dX3_fill_79 : decode cX3_fill 79 = .ok (.getfield 36, 3) := by decide +kernel
theorem dX3_fill_82 : decode cX3_fill 82 = .ok (.ireturn, 1) := by decide +kernel
theorem dX3_addStepsOf_0 : decode cX3_addStepsOf 0 = .ok (.aload_n 0, 1) := by decide +kernel
theorem dX3_addStepsOf_1 : decode cX3_addStepsOf 1 = .ok (.getfield 11, 3) := by decide +kernel
theorem dX3_addStepsOf_4 : decode cX3_addStepsOf 4 = .ok (.iload_n 1, 1) := by decide +kernel
theorem dX3_addStepsOf_5 : decode cX3_addStepsOf 5 = .ok (.iaload, 1) := by decide +kernel
theorem dX3_addStepsOf_6 : decode cX3_addStepsOf 6 = .ok (.istore_n 3, 1) := by decide +kernel
theorem dX3_addStepsOf_7 : decode cX3_addStepsOf 7 = .ok (.aload_n 0, 1) := by decide +kernel
theorem dX3_addStepsOf_8 : decode cX3_addStepsOf 8 = .ok (.getfield 24, 3) := by decide +kernel
theorem dX3_addStepsOf_11 : decode cX3_addStepsOf 11 = .ok (.iload_n 1, 1) := by decide +kernel
theorem dX3_addStepsOf_12 : decode cX3_addStepsOf 12 = .ok (.iconst 0, 1) := by decide +kernel
theorem dX3_addStepsOf_13 : decode cX3_addStepsOf 13 = .ok (.iastore, 1) := by decide +kernel
theorem dX3_addStepsOf_14 : decode cX3_addStepsOf 14 = .ok (.aload_n 0, 1) := by decide +kernel
theorem dX3_addStepsOf_15 : decode cX3_addStepsOf 15 = .ok (.getfield 27, 3) := by decide +kernel
theorem dX3_addStepsOf_18 : decode cX3_addStepsOf 18 = .ok (.iload_n 1, 1) := by decide +kernel
theorem dX3_addStepsOf_19 : decode cX3_addStepsOf 19 = .ok (.aload_n 0, 1) := by decide +kernel
theorem dX3_addStepsOf_20 : decode cX3_addStepsOf 20 = .ok (.getfield 44, 3) := by decide +kernel
theorem dX3_addStepsOf_23 : decode cX3_addStepsOf 23 = .ok (.iastore, 1) := by decide +kernel
theorem dX3_addStepsOf_24 : decode cX3_addStepsOf 24 = .ok (.iconst 0, 1) := by decide +kernel
theorem dX3_addStepsOf_25 : decode cX3_addStepsOf 25 = .ok (.istore 4, 2) := by decide +kernel
theorem dX3_addStepsOf_27 : decode cX3_addStepsOf 27 = .ok (.iload 4, 2) := by decide +kernel
theorem dX3_addStepsOf_29 : decode cX3_addStepsOf 29 = .ok (.aload_n 2, 1) := by decide +kernel
theorem dX3_addStepsOf_30 : decode cX3_addStepsOf 30 = .ok (.getfield 78, 3) := by decide +kernel
theorem dX3_addStepsOf_33 : decode cX3_addStepsOf 33 = .ok (.if_icmp .ge 61, 3) := by decide +kernel
theorem dX3_addStepsOf_36 : decode cX3_addStepsOf 36 = .ok (.iconst 0, 1) := by decide +kernel
theorem dX3_addStepsOf_37 : decode cX3_addStepsOf 37 = .ok (.istore 5, 2) := by decide +kernel
theorem dX3_addStepsOf_39 : decode cX3_addStepsOf 39 = .ok (.iload 5, 2) := by decide +kernel
theorem dX3_addStepsOf_41 : decode cX3_addStepsOf 41 = .ok (.aload_n 2, 1) := by decide +kernel
theorem dX3_addStepsOf_42 : decode cX3_addStepsOf 42 = .ok (.iload 4, 2) := by decide +kernel
theorem dX3_addStepsOf_44 : decode cX3_addStepsOf 44 = .ok (.invokevirtual 81, 3) := by decide +kernel
theorem dX3_addStepsOf_47 : decode cX3_addStepsOf 47 = .ok (.if_icmp .ge 41, 3) := by decide +kernel
theorem dX3_addStepsOf_50 : decode cX3_addStepsOf 50 = .ok (.aload_n 2, 1) := by decide +kernel
theorem dX3_addStepsOf_51 : decode cX3_addStepsOf 51 = .ok (.iload 4, 2) := by decide +kernel
theorem dX3_addStepsOf_53 : decode cX3_addStepsOf 53 = .ok (.iload 5, 2) := by decide +kernel
theorem dX3_addStepsOf_55 : decode cX3_addStepsOf 55 = .ok (.invokevirtual 84, 3) := by decide +kernel
theorem dX3_addStepsOf_58 : decode cX3_addStepsOf 58 = .ok (.astore 6, 2) := by decide +kernel
theorem dX3_addStepsOf_60 : decode cX3_addStepsOf 60 = .ok (.aload 6, 2) := by decide +kernel
theorem dX3_addStepsOf_62 : decode cX3_addStepsOf 62 = .ok (.ifnull 20, 3) := by decide +kernel
theorem dX3_addStepsOf_65 : decode cX3_addStepsOf 65 = .ok (.aload 6, 2) := by decide +kernel
theorem dX3_addStepsOf_67 : decode cX3_addStepsOf 67 = .ok (.iload_n 3, 1) := by decide +kernel
theorem dX3_addStepsOf_68 : decode cX3_addStepsOf 68 = .ok (.invokevirtual 88, 3) := by decide +kernel
theorem dX3_addStepsOf_71 : decode cX3_addStepsOf 71 = .ok (.ifCond .eq 11, 3) := by decide +kernel
theorem dX3_addStepsOf_74 : decode cX3_addStepsOf 74 = .ok (.aload_n 0, 1) := by decide +kernel
theorem dX3_addStepsOf_75 : decode cX3_addStepsOf 75 = .ok (.aload 6, 2) := by decide +kernel
theorem dX3_addStepsOf_77 : decode cX3_addStepsOf 77 = .ok (.iload_n 1, 1) := by decide +kernel
theorem dX3_addStepsOf_78 : decode cX3_addStepsOf 78 = .ok (.aload_n 2, 1) := by decide +kernel
theorem dX3_addStepsOf_79 : decode cX3_addStepsOf 79 = .ok (.invokevirtual 94, 3) := by decide +kernel
theorem dX3_addStepsOf_82 : decode cX3_addStepsOf 82 = .ok (.iinc 5 1, 3) := by decide +kernel
theorem dX3_addStepsOf_85 : decode cX3_addStepsOf 85 = .ok (.goto (-46), 3) := by decide +kernel
theorem dX3_addStepsOf_88 : decode cX3_addStepsOf 88 = .ok (.iinc 4 1, 3) := by decide +kernel
theorem dX3_addStepsOf_91 : decode cX3_addStepsOf 91 = .ok (.goto (-64), 3) := by decide +kernel
theorem dX3_addStepsOf_94 : decode cX3_addStepsOf 94 = .ok (.aload_n 0, 1) := by decide +kernel
theorem dX3_addStepsOf_95 : decode cX3_addStepsOf 95 = .ok (.getfield 27, 3) := by decide +kernel
theorem dX3_addStepsOf_98 : decode cX3_addStepsOf 98 = .ok (.iload_n 1, 1) := by decide +kernel
theorem dX3_addStepsOf_99 : decode cX3_addStepsOf 99 = .ok (.iconst 1, 1) := by decide +kernel
theorem dX3_addStepsOf_100 : decode cX3_addStepsOf 100 = .ok (.iadd, 1) := by decide +kernel
theorem dX3_addStepsOf_101 : decode cX3_addStepsOf 101 = .ok (.aload_n 0, 1) := by decide +kernel
theorem dX3_addStepsOf_102 : decode cX3_addStepsOf 102 = .ok (.getfield 44, 3) := by decide +kernel
theorem dX3_addStepsOf_105 : decode cX3_addStepsOf 105 = .ok (.iastore, 1) := by decide +kernel
theorem dX3_addStepsOf_106 : decode cX3_addStepsOf 106 = .ok (.return_, 1) := by decide +kernel
theorem dX3_addStepsBy_0 : decode cX3_addStepsBy 0 = .ok (.aload_n 1, 1) := by decide +kernel
theorem dX3_addStepsBy_1 : decode cX3_addStepsBy 1 = .ok (.aload_n 1, 1) := by decide +kernel
theorem dX3_addStepsBy_2 : decode cX3_addStepsBy 2 = .ok (.aload_n 0, 1) := by decide +kernel
theorem dX3_addStepsBy_3 : decode cX3_addStepsBy 3 = .ok (.getfield 11, 3) := by decide +kernel
theorem dX3_addStepsBy_6 : decode cX3_addStepsBy 6 = .ok (.iload_n 2, 1) := by decide +kernel
theorem dX3_addStepsBy_7 : decode cX3_addStepsBy 7 = .ok (.iaload, 1) := by decide +kernel
theorem dX3_addStepsBy_8 : decode cX3_addStepsBy 8 = .ok (.invokevirtual 98, 3) := by decide +kernel
theorem dX3_addStepsBy_11 : decode cX3_addStepsBy 11 = .ok (.invokevirtual 101, 3) := by decide +kernel
theorem dX3_addStepsBy_14 : decode cX3_addStepsBy 14 = .ok (.istore 4, 2) := by decide +kernel
theorem dX3_addStepsBy_16 : decode cX3_addStepsBy 16 = .ok (.aload_n 1, 1) := by decide +kernel
theorem dX3_addStepsBy_17 : decode cX3_addStepsBy 17 = .ok (.getfield 104, 3) := by decide +kernel
theorem dX3_addStepsBy_20 : decode cX3_addStepsBy 20 = .ok (.ifCond .ne 15, 3) := by decide +kernel
theorem dX3_addStepsBy_23 : decode cX3_addStepsBy 23 = .ok (.aload_n 0, 1) := by decide +kernel
theorem dX3_addStepsBy_24 : decode cX3_addStepsBy 24 = .ok (.iload_n 2, 1) := by decide +kernel
theorem dX3_addStepsBy_25 : decode cX3_addStepsBy 25 = .ok (.iload 4, 2) := by decide +kernel
theorem dX3_addStepsBy_27 : decode cX3_addStepsBy 27 = .ok (.aload_n 1, 1) := by decide +kernel
theorem dX3_addStepsBy_28 : decode cX3_addStepsBy 28 = .ok (.invokestatic 107, 3) := by decide +kernel
theorem dX3_addStepsBy_31 : decode cX3_addStepsBy 31 = .ok (.invokevirtual 111, 3) := by decide +kernel
theorem dX3_addStepsBy_34 : decode cX3_addStepsBy 34 = .ok (.return_, 1) := by decide +kernel
theorem dX3_addStepsBy_35 : decode cX3_addStepsBy 35 = .ok (.aload_n 1, 1) := by decide +kernel
theorem dX3_addStepsBy_36 : decode cX3_addStepsBy 36 = .ok (.getfield 115, 3) := by decide +kernel
theorem dX3_addStepsBy_39 : decode cX3_addStepsBy 39 = .ok (.iconst 1, 1) := by decide +kernel
theorem dX3_addStepsBy_40 : decode cX3_addStepsBy 40 = .ok (.iadd, 1) := by decide +kernel
theorem dX3_addStepsBy_41 : decode cX3_addStepsBy 41 = .ok (.istore 5, 2) := by decide +kernel
theorem dX3_addStepsBy_43 : decode cX3_addStepsBy 43 = .ok (.iload 5, 2) := by decide +kernel
theorem dX3_addStepsBy_45 : decode cX3_addStepsBy 45 = .ok (.aload_n 3, 1) := by decide +kernel
theorem dX3_addStepsBy_46 : decode cX3_addStepsBy 46 = .ok (.getfield 78, 3) := by decide +kernel
theorem dX3_addStepsBy_49 : decode cX3_addStepsBy 49 = .ok (.if_icmp .ge 109, 3) := by decide +kernel
theorem dX3_addStepsBy_52 : decode cX3_addStepsBy 52 = .ok (.iconst 0, 1) := by decide +kernel
theorem dX3_addStepsBy_53 : decode cX3_addStepsBy 53 = .ok (.istore 6, 2) := by decide +kernel
theorem dX3_addStepsBy_55 : decode cX3_addStepsBy 55 = .ok (.iload 6, 2) := by decide +kernel
theorem dX3_addStepsBy_57 : decode cX3_addStepsBy 57 = .ok (.aload_n 3, 1) := by decide +kernel
theorem dX3_addStepsBy_58 : decode cX3_addStepsBy 58 = .ok (.iload 5, 2) := by decide +kernel
theorem dX3_addStepsBy_60 : decode cX3_addStepsBy 60 = .ok (.invokevirtual 81, 3) := by decide +kernel
theorem dX3_addStepsBy_63 : decode cX3_addStepsBy 63 = .ok (.if_icmp .ge 89, 3) := by decide +kernel
theorem dX3_addStepsBy_66 : decode cX3_addStepsBy 66 = .ok (.aload_n 3, 1) := by decide +kernel
theorem dX3_addStepsBy_67 : decode cX3_addStepsBy 67 = .ok (.iload 5, 2) := by decide +kernel
theorem dX3_addStepsBy_69 : decode cX3_addStepsBy 69 = .ok (.iload 6, 2) := by decide +kernel
theorem dX3_addStepsBy_71 : decode cX3_addStepsBy 71 = .ok (.invokevirtual 84, 3) := by decide +kernel
theorem dX3_addStepsBy_74 : decode cX3_addStepsBy 74 = .ok (.astore 7, 2) := by decide +kernel
theorem dX3_addStepsBy_76 : decode cX3_addStepsBy 76 = .ok (.aload 7, 2) := by decide +kernel
theorem dX3_addStepsBy_78 : decode cX3_addStepsBy 78 = .ok (.ifnull 68, 3) := by decide +kernel
theorem dX3_addStepsBy_81 : decode cX3_addStepsBy 81 = .ok (.aload 7, 2) := by decide +kernel
theorem dX3_addStepsBy_83 : decode cX3_addStepsBy 83 = .ok (.getfield 104, 3) := by decide +kernel
theorem dX3_addStepsBy_86 : decode cX3_addStepsBy 86 = .ok (.aload_n 1, 1) := by decide +kernel
theorem dX3_addStepsBy_87 : decode cX3_addStepsBy 87 = .ok (.getfield 104, 3) := by decide +kernel
theorem dX3_addStepsBy_90 : decode cX3_addStepsBy 90 = .ok (.if_icmp .ne 56, 3) := by decide +kernel
theorem dX3_addStepsBy_93 : decode cX3_addStepsBy 93 = .ok (.aload 7, 2) := by decide +kernel
theorem dX3_addStepsBy_95 : decode cX3_addStepsBy 95 = .ok (.aload_n 0, 1) := by decide +kernel
theorem dX3_addStepsBy_96 : decode cX3_addStepsBy 96 = .ok (.getfield 11, 3) := by decide +kernel
theorem dX3_addStepsBy_99 : decode cX3_addStepsBy 99 = .ok (.iload_n 2, 1) := by decide +kernel
theorem dX3_addStepsBy_100 : decode cX3_addStepsBy 100 = .ok (.iaload, 1) := by decide +kernel
theorem dX3_addStepsBy_101 : decode cX3_addStepsBy 101 = .ok (.invokevirtual 88, 3) := by decide +kernel
theorem dX3_addStepsBy_104 : decode cX3_addStepsBy 104 = .ok (.ifCond .ne 6, 3) := by decide +kernel
theorem dX3_addStepsBy_107 : decode cX3_addStepsBy 107 = .ok (.goto 39, 3) := by decide +kernel
theorem dX3_addStepsBy_110 : decode cX3_addStepsBy 110 = .ok (.aload 7, 2) := by decide +kernel
theorem dX3_addStepsBy_112 : decode cX3_addStepsBy 112 = .ok (.iload 4, 2) := by decide +kernel
theorem dX3_addStepsBy_114 : decode cX3_addStepsBy 114 = .ok (.invokevirtual 98, 3) := by decide +kernel
theorem dX3_addStepsBy_117 : decode cX3_addStepsBy 117 = .ok (.istore 8, 2) := by decide +kernel
theorem dX3_addStepsBy_119 : decode cX3_addStepsBy 119 = .ok (.iload 8, 2) := by decide +kernel
theorem dX3_addStepsBy_121 : decode cX3_addStepsBy 121 = .ok (.ifCond .lt 25, 3) := by decide +kernel
theorem dX3_addStepsBy_124 : decode cX3_addStepsBy 124 = .ok (.aload_n 0, 1) := by decide +kernel
theorem dX3_addStepsBy_125 : decode cX3_addStepsBy 125 = .ok (.iload_n 2, 1) := by decide +kernel
theorem dX3_addStepsBy_126 : decode cX3_addStepsBy 126 = .ok (.aload 7, 2) := by decide +kernel
theorem dX3_addStepsBy_128 : decode cX3_addStepsBy 128 = .ok (.iload 8, 2) := by decide +kernel
theorem dX3_addStepsBy_130 : decode cX3_addStepsBy 130 = .ok (.invokevirtual 101, 3) := by decide +kernel
theorem dX3_addStepsBy_133 : decode cX3_addStepsBy 133 = .ok (.aload_n 1, 1) := by decide +kernel
theorem dX3_addStepsBy_134 : decode cX3_addStepsBy 134 = .ok (.invokestatic 107, 3) := by decide +kernel
theorem dX3_addStepsBy_137 : decode cX3_addStepsBy 137 = .ok (.aload 7, 2) := by decide +kernel
theorem dX3_addStepsBy_139 : decode cX3_addStepsBy 139 = .ok (.invokestatic 118, 3) := by decide +kernel
theorem dX3_addStepsBy_142 : decode cX3_addStepsBy 142 = .ok (.ior, 1) := by decide +kernel
theorem dX3_addStepsBy_143 : decode cX3_addStepsBy 143 = .ok (.invokevirtual 111, 3) := by decide +kernel
theorem dX3_addStepsBy_146 : decode cX3_addStepsBy 146 = .ok (.iinc 6 1, 3) := by decide +kernel
theorem dX3_addStepsBy_149 : decode cX3_addStepsBy 149 = .ok (.goto (-94), 3) := by decide +kernel
theorem dX3_addStepsBy_152 : decode cX3_addStepsBy 152 = .ok (.iinc 5 1, 3) := by decide +kernel
theorem dX3_addStepsBy_155 : decode cX3_addStepsBy 155 = .ok (.goto (-112), 3) := by decide +kernel
theorem dX3_addStepsBy_158 : decode cX3_addStepsBy 158 = .ok (.return_, 1) := by decide +kernel
theorem dX3_packedMover_0 : decode cX3_packedMover 0 = .ok (.aload_n 0, 1) := by decide +kernel
theorem dX3_packedMover_1 : decode cX3_packedMover 1 = .ok (.getfield 115, 3) := by decide +kernel
theorem dX3_packedMover_4 : decode cX3_packedMover 4 = .ok (.bipush 9, 2) := by decide +kernel
theorem dX3_packedMover_6 : decode cX3_packedMover 6 = .ok (.ishl, 1) := by decide +kernel
theorem dX3_packedMover_7 : decode cX3_packedMover 7 = .ok (.aload_n 0, 1) := by decide +kernel
theorem dX3_packedMover_8 : decode cX3_packedMover 8 = .ok (.getfield 121, 3) := by decide +kernel
theorem dX3_packedMover_11 : decode cX3_packedMover 11 = .ok (.bipush 12, 2) := by decide +kernel
theorem dX3_packedMover_13 : decode cX3_packedMover 13 = .ok (.ishl, 1) := by decide +kernel
theorem dX3_packedMover_14 : decode cX3_packedMover 14 = .ok (.ior, 1) := by decide +kernel
theorem dX3_packedMover_15 : decode cX3_packedMover 15 = .ok (.ireturn, 1) := by decide +kernel
theorem dX3_packedOther_0 : decode cX3_packedOther 0 = .ok (.aload_n 0, 1) := by decide +kernel
theorem dX3_packedOther_1 : decode cX3_packedOther 1 = .ok (.getfield 115, 3) := by decide +kernel
theorem dX3_packedOther_4 : decode cX3_packedOther 4 = .ok (.iconst 1, 1) := by decide +kernel
theorem dX3_packedOther_5 : decode cX3_packedOther 5 = .ok (.iadd, 1) := by decide +kernel
theorem dX3_packedOther_6 : decode cX3_packedOther 6 = .ok (.bipush 16, 2) := by decide +kernel
theorem dX3_packedOther_8 : decode cX3_packedOther 8 = .ok (.ishl, 1) := by decide +kernel
theorem dX3_packedOther_9 : decode cX3_packedOther 9 = .ok (.aload_n 0, 1) := by decide +kernel
theorem dX3_packedOther_10 : decode cX3_packedOther 10 = .ok (.getfield 121, 3) := by decide +kernel
theorem dX3_packedOther_13 : decode cX3_packedOther 13 = .ok (.iconst 1, 1) := by decide +kernel
theorem dX3_packedOther_14 : decode cX3_packedOther 14 = .ok (.iadd, 1) := by decide +kernel
theorem dX3_packedOther_15 : decode cX3_packedOther 15 = .ok (.bipush 19, 2) := by decide +kernel
theorem dX3_packedOther_17 : decode cX3_packedOther 17 = .ok (.ishl, 1) := by decide +kernel
theorem dX3_packedOther_18 : decode cX3_packedOther 18 = .ok (.ior, 1) := by decide +kernel
theorem dX3_packedOther_19 : decode cX3_packedOther 19 = .ok (.ireturn, 1) := by decide +kernel
theorem dX3_addStep_0 : decode cX3_addStep 0 = .ok (.aload_n 0, 1) := by decide +kernel
theorem dX3_addStep_1 : decode cX3_addStep 1 = .ok (.iload_n 2, 1) := by decide +kernel
theorem dX3_addStep_2 : decode cX3_addStep 2 = .ok (.iload_n 1, 1) := by decide +kernel
theorem dX3_addStep_3 : decode cX3_addStep 3 = .ok (.invokevirtual 124, 3) := by decide +kernel
theorem dX3_addStep_6 : decode cX3_addStep 6 = .ok (.istore 4, 2) := by decide +kernel
theorem dX3_addStep_8 : decode cX3_addStep 8 = .ok (.iload 4, 2) := by decide +kernel
theorem dX3_addStep_10 : decode cX3_addStep 10 = .ok (.ifCond .ge 9, 3) := by decide +kernel
theorem dX3_addStep_13 : decode cX3_addStep 13 = .ok (.aload_n 0, 1) := by decide +kernel
theorem dX3_addStep_14 : decode cX3_addStep 14 = .ok (.iconst 1, 1) := by decide +kernel
theorem dX3_addStep_15 : decode cX3_addStep 15 = .ok (.putfield 47, 3) := by decide +kernel
theorem dX3_addStep_18 : decode cX3_addStep 18 = .ok (.return_, 1) := by decide +kernel
theorem dX3_addStep_19 : decode cX3_addStep 19 = .ok (.aload_n 0, 1) := by decide +kernel
theorem dX3_addStep_20 : decode cX3_addStep 20 = .ok (.getfield 44, 3) := by decide +kernel
theorem dX3_addStep_23 : decode cX3_addStep 23 = .ok (.aload_n 0, 1) := by decide +kernel
theorem dX3_addStep_24 : decode cX3_addStep 24 = .ok (.getfield 33, 3) := by decide +kernel
theorem dX3_addStep_27 : decode cX3_addStep 27 = .ok (.arraylength, 1) := by decide +kernel
theorem dX3_addStep_28 : decode cX3_addStep 28 = .ok (.if_icmp .lt 26, 3) := by decide +kernel
theorem dX3_addStep_31 : decode cX3_addStep 31 = .ok (.aload_n 0, 1) := by decide +kernel
theorem dX3_addStep_32 : decode cX3_addStep 32 = .ok (.aload_n 0, 1) := by decide +kernel
theorem dX3_addStep_33 : decode cX3_addStep 33 = .ok (.getfield 33, 3) := by decide +kernel
theorem dX3_addStep_36 : decode cX3_addStep 36 = .ok (.aload_n 0, 1) := by decide +kernel
theorem dX3_addStep_37 : decode cX3_addStep 37 = .ok (.getfield 33, 3) := by decide +kernel
theorem dX3_addStep_40 : decode cX3_addStep 40 = .ok (.arraylength, 1) := by decide +kernel
theorem dX3_addStep_41 : decode cX3_addStep 41 = .ok (.iconst 2, 1) := by decide +kernel
theorem dX3_addStep_42 : decode cX3_addStep 42 = .ok (.imul, 1) := by decide +kernel
theorem dX3_addStep_43 : decode cX3_addStep 43 = .ok (.ldc 127, 2) := by decide +kernel
theorem dX3_addStep_45 : decode cX3_addStep 45 = .ok (.invokestatic 128, 3) := by decide +kernel
theorem dX3_addStep_48 : decode cX3_addStep 48 = .ok (.invokestatic 133, 3) := by decide +kernel
theorem dX3_addStep_51 : decode cX3_addStep 51 = .ok (.putfield 33, 3) := by decide +kernel
theorem dX3_addStep_54 : decode cX3_addStep 54 = .ok (.aload_n 0, 1) := by decide +kernel
theorem dX3_addStep_55 : decode cX3_addStep 55 = .ok (.getfield 33, 3) := by decide +kernel
theorem dX3_addStep_58 : decode cX3_addStep 58 = .ok (.aload_n 0, 1) := by decide +kernel
theorem dX3_addStep_59 : decode cX3_addStep 59 = .ok (.getfield 44, 3) := by decide +kernel
theorem dX3_addStep_62 : decode cX3_addStep 62 = .ok (.iload_n 3, 1) := by decide +kernel
theorem dX3_addStep_63 : decode cX3_addStep 63 = .ok (.iload 4, 2) := by decide +kernel
theorem dX3_addStep_65 : decode cX3_addStep 65 = .ok (.ior, 1) := by decide +kernel
theorem dX3_addStep_66 : decode cX3_addStep 66 = .ok (.iastore, 1) := by decide +kernel
theorem dX3_addStep_67 : decode cX3_addStep 67 = .ok (.aload_n 0, 1) := by decide +kernel
theorem dX3_addStep_68 : decode cX3_addStep 68 = .ok (.dup, 1) := by decide +kernel
theorem dX3_addStep_69 : decode cX3_addStep 69 = .ok (.getfield 44, 3) := by decide +kernel
theorem dX3_addStep_72 : decode cX3_addStep 72 = .ok (.iconst 1, 1) := by decide +kernel
theorem dX3_addStep_73 : decode cX3_addStep 73 = .ok (.iadd, 1) := by decide +kernel
theorem dX3_addStep_74 : decode cX3_addStep 74 = .ok (.putfield 44, 3) := by decide +kernel
theorem dX3_addStep_77 : decode cX3_addStep 77 = .ok (.aload_n 0, 1) := by decide +kernel
theorem dX3_addStep_78 : decode cX3_addStep 78 = .ok (.getfield 24, 3) := by decide +kernel
theorem dX3_addStep_81 : decode cX3_addStep 81 = .ok (.iload_n 1, 1) := by decide +kernel
theorem dX3_addStep_82 : decode cX3_addStep 82 = .ok (.dup2, 1) := by decide +kernel
theorem dX3_addStep_83 : decode cX3_addStep 83 = .ok (.iaload, 1) := by decide +kernel
theorem dX3_addStep_84 : decode cX3_addStep 84 = .ok (.iload_n 3, 1) := by decide +kernel
theorem dX3_addStep_85 : decode cX3_addStep 85 = .ok (.invokestatic 137, 3) := by decide +kernel
theorem dX3_addStep_88 : decode cX3_addStep 88 = .ok (.ior, 1) := by decide +kernel
theorem dX3_addStep_89 : decode cX3_addStep 89 = .ok (.iastore, 1) := by decide +kernel
theorem dX3_addStep_90 : decode cX3_addStep 90 = .ok (.return_, 1) := by decide +kernel
theorem dX3_numberOf_0 : decode cX3_numberOf 0 = .ok (.aload_n 0, 1) := by decide +kernel
theorem dX3_numberOf_1 : decode cX3_numberOf 1 = .ok (.iload_n 1, 1) := by decide +kernel
theorem dX3_numberOf_2 : decode cX3_numberOf 2 = .ok (.invokevirtual 66, 3) := by decide +kernel
theorem dX3_numberOf_5 : decode cX3_numberOf 5 = .ok (.istore_n 3, 1) := by decide +kernel
theorem dX3_numberOf_6 : decode cX3_numberOf 6 = .ok (.aload_n 0, 1) := by decide +kernel
theorem dX3_numberOf_7 : decode cX3_numberOf 7 = .ok (.getfield 30, 3) := by decide +kernel
theorem dX3_numberOf_10 : decode cX3_numberOf 10 = .ok (.iload_n 3, 1) := by decide +kernel
theorem dX3_numberOf_11 : decode cX3_numberOf 11 = .ok (.iaload, 1) := by decide +kernel
theorem dX3_numberOf_12 : decode cX3_numberOf 12 = .ok (.ifCond .lt 10, 3) := by decide +kernel
theorem dX3_numberOf_15 : decode cX3_numberOf 15 = .ok (.aload_n 0, 1) := by decide +kernel
theorem dX3_numberOf_16 : decode cX3_numberOf 16 = .ok (.getfield 30, 3) := by decide +kernel
theorem dX3_numberOf_19 : decode cX3_numberOf 19 = .ok (.iload_n 3, 1) := by decide +kernel
theorem dX3_numberOf_20 : decode cX3_numberOf 20 = .ok (.iaload, 1) := by decide +kernel
theorem dX3_numberOf_21 : decode cX3_numberOf 21 = .ok (.ireturn, 1) := by decide +kernel
theorem dX3_numberOf_22 : decode cX3_numberOf 22 = .ok (.aload_n 0, 1) := by decide +kernel
theorem dX3_numberOf_23 : decode cX3_numberOf 23 = .ok (.getfield 36, 3) := by decide +kernel
theorem dX3_numberOf_26 : decode cX3_numberOf 26 = .ok (.sipush 400, 3) := by decide +kernel
theorem dX3_numberOf_29 : decode cX3_numberOf 29 = .ok (.if_icmp .lt 5, 3) := by decide +kernel
theorem dX3_numberOf_32 : decode cX3_numberOf 32 = .ok (.iconst (-1), 1) := by decide +kernel
theorem dX3_numberOf_33 : decode cX3_numberOf 33 = .ok (.ireturn, 1) := by decide +kernel
theorem dX3_numberOf_34 : decode cX3_numberOf 34 = .ok (.aload_n 0, 1) := by decide +kernel
theorem dX3_numberOf_35 : decode cX3_numberOf 35 = .ok (.iload_n 1, 1) := by decide +kernel
theorem dX3_numberOf_36 : decode cX3_numberOf 36 = .ok (.iload_n 3, 1) := by decide +kernel
theorem dX3_numberOf_37 : decode cX3_numberOf 37 = .ok (.iload_n 2, 1) := by decide +kernel
theorem dX3_numberOf_38 : decode cX3_numberOf 38 = .ok (.aload_n 0, 1) := by decide +kernel
theorem dX3_numberOf_39 : decode cX3_numberOf 39 = .ok (.getfield 15, 3) := by decide +kernel
theorem dX3_numberOf_42 : decode cX3_numberOf 42 = .ok (.iload_n 2, 1) := by decide +kernel
theorem dX3_numberOf_43 : decode cX3_numberOf 43 = .ok (.iaload, 1) := by decide +kernel
theorem dX3_numberOf_44 : decode cX3_numberOf 44 = .ok (.iconst 1, 1) := by decide +kernel
theorem dX3_numberOf_45 : decode cX3_numberOf 45 = .ok (.iadd, 1) := by decide +kernel
theorem dX3_numberOf_46 : decode cX3_numberOf 46 = .ok (.invokevirtual 70, 3) := by decide +kernel
theorem dX3_numberOf_49 : decode cX3_numberOf 49 = .ok (.aload_n 0, 1) := by decide +kernel
theorem dX3_numberOf_50 : decode cX3_numberOf 50 = .ok (.getfield 36, 3) := by decide +kernel
theorem dX3_numberOf_53 : decode cX3_numberOf 53 = .ok (.iconst 1, 1) := by decide +kernel
theorem dX3_numberOf_54 : decode cX3_numberOf 54 = .ok (.isub, 1) := by decide +kernel
theorem dX3_numberOf_55 : decode cX3_numberOf 55 = .ok (.ireturn, 1) := by decide +kernel
theorem dX3_newState_0 : decode cX3_newState 0 = .ok (.aload_n 0, 1) := by decide +kernel
theorem dX3_newState_1 : decode cX3_newState 1 = .ok (.getfield 11, 3) := by decide +kernel
theorem dX3_newState_4 : decode cX3_newState 4 = .ok (.aload_n 0, 1) := by decide +kernel
theorem dX3_newState_5 : decode cX3_newState 5 = .ok (.getfield 36, 3) := by decide +kernel
theorem dX3_newState_8 : decode cX3_newState 8 = .ok (.iload_n 1, 1) := by decide +kernel
theorem dX3_newState_9 : decode cX3_newState 9 = .ok (.iastore, 1) := by decide +kernel
theorem dX3_newState_10 : decode cX3_newState 10 = .ok (.aload_n 0, 1) := by decide +kernel
theorem dX3_newState_11 : decode cX3_newState 11 = .ok (.getfield 15, 3) := by decide +kernel
theorem dX3_newState_14 : decode cX3_newState 14 = .ok (.aload_n 0, 1) := by decide +kernel
theorem dX3_newState_15 : decode cX3_newState 15 = .ok (.getfield 36, 3) := by decide +kernel
theorem dX3_newState_18 : decode cX3_newState 18 = .ok (.iload 4, 2) := by decide +kernel
theorem dX3_newState_20 : decode cX3_newState 20 = .ok (.iastore, 1) := by decide +kernel
theorem dX3_newState_21 : decode cX3_newState 21 = .ok (.aload_n 0, 1) := by decide +kernel
theorem dX3_newState_22 : decode cX3_newState 22 = .ok (.getfield 18, 3) := by decide +kernel
theorem dX3_newState_25 : decode cX3_newState 25 = .ok (.aload_n 0, 1) := by decide +kernel
theorem dX3_newState_26 : decode cX3_newState 26 = .ok (.getfield 36, 3) := by decide +kernel
theorem dX3_newState_29 : decode cX3_newState 29 = .ok (.iload_n 3, 1) := by decide +kernel
theorem dX3_newState_30 : decode cX3_newState 30 = .ok (.iastore, 1) := by decide +kernel
theorem dX3_newState_31 : decode cX3_newState 31 = .ok (.aload_n 0, 1) := by decide +kernel
theorem dX3_newState_32 : decode cX3_newState 32 = .ok (.getfield 21, 3) := by decide +kernel
theorem dX3_newState_35 : decode cX3_newState 35 = .ok (.aload_n 0, 1) := by decide +kernel
theorem dX3_newState_36 : decode cX3_newState 36 = .ok (.getfield 36, 3) := by decide +kernel
theorem dX3_newState_39 : decode cX3_newState 39 = .ok (.aload_n 0, 1) := by decide +kernel
theorem dX3_newState_40 : decode cX3_newState 40 = .ok (.getfield 44, 3) := by decide +kernel
theorem dX3_newState_43 : decode cX3_newState 43 = .ok (.aload_n 0, 1) := by decide +kernel
theorem dX3_newState_44 : decode cX3_newState 44 = .ok (.getfield 27, 3) := by decide +kernel
theorem dX3_newState_47 : decode cX3_newState 47 = .ok (.iload_n 3, 1) := by decide +kernel
theorem dX3_newState_48 : decode cX3_newState 48 = .ok (.iaload, 1) := by decide +kernel
theorem dX3_newState_49 : decode cX3_newState 49 = .ok (.isub, 1) := by decide +kernel
theorem dX3_newState_50 : decode cX3_newState 50 = .ok (.iastore, 1) := by decide +kernel
theorem dX3_newState_51 : decode cX3_newState 51 = .ok (.aload_n 0, 1) := by decide +kernel
theorem dX3_newState_52 : decode cX3_newState 52 = .ok (.getfield 30, 3) := by decide +kernel
theorem dX3_newState_55 : decode cX3_newState 55 = .ok (.iload_n 2, 1) := by decide +kernel
theorem dX3_newState_56 : decode cX3_newState 56 = .ok (.aload_n 0, 1) := by decide +kernel
theorem dX3_newState_57 : decode cX3_newState 57 = .ok (.getfield 36, 3) := by decide +kernel
theorem dX3_newState_60 : decode cX3_newState 60 = .ok (.iastore, 1) := by decide +kernel
theorem dX3_newState_61 : decode cX3_newState 61 = .ok (.aload_n 0, 1) := by decide +kernel
theorem dX3_newState_62 : decode cX3_newState 62 = .ok (.dup, 1) := by decide +kernel
theorem dX3_newState_63 : decode cX3_newState 63 = .ok (.getfield 36, 3) := by decide +kernel
theorem dX3_newState_66 : decode cX3_newState 66 = .ok (.iconst 1, 1) := by decide +kernel
theorem dX3_newState_67 : decode cX3_newState 67 = .ok (.iadd, 1) := by decide +kernel
theorem dX3_newState_68 : decode cX3_newState 68 = .ok (.putfield 36, 3) := by decide +kernel
theorem dX3_newState_71 : decode cX3_newState 71 = .ok (.return_, 1) := by decide +kernel
theorem dX3_slotOf_0 : decode cX3_slotOf 0 = .ok (.iload_n 1, 1) := by decide +kernel
theorem dX3_slotOf_1 : decode cX3_slotOf 1 = .ok (.ldc 140, 2) := by decide +kernel
theorem dX3_slotOf_3 : decode cX3_slotOf 3 = .ok (.imul, 1) := by decide +kernel
theorem dX3_slotOf_4 : decode cX3_slotOf 4 = .ok (.bipush 22, 2) := by decide +kernel
theorem dX3_slotOf_6 : decode cX3_slotOf 6 = .ok (.iushr, 1) := by decide +kernel
theorem dX3_slotOf_7 : decode cX3_slotOf 7 = .ok (.istore_n 2, 1) := by decide +kernel
theorem dX3_slotOf_8 : decode cX3_slotOf 8 = .ok (.iconst 0, 1) := by decide +kernel
theorem dX3_slotOf_9 : decode cX3_slotOf 9 = .ok (.istore_n 3, 1) := by decide +kernel
theorem dX3_slotOf_10 : decode cX3_slotOf 10 = .ok (.iload_n 3, 1) := by decide +kernel
theorem dX3_slotOf_11 : decode cX3_slotOf 11 = .ok (.sipush 1024, 3) := by decide +kernel
theorem dX3_slotOf_14 : decode cX3_slotOf 14 = .ok (.if_icmp .ge 41, 3) := by decide +kernel
theorem dX3_slotOf_17 : decode cX3_slotOf 17 = .ok (.aload_n 0, 1) := by decide +kernel
theorem dX3_slotOf_18 : decode cX3_slotOf 18 = .ok (.getfield 30, 3) := by decide +kernel
theorem dX3_slotOf_21 : decode cX3_slotOf 21 = .ok (.iload_n 2, 1) := by decide +kernel
theorem dX3_slotOf_22 : decode cX3_slotOf 22 = .ok (.iaload, 1) := by decide +kernel
theorem dX3_slotOf_23 : decode cX3_slotOf 23 = .ok (.ifCond .lt 32, 3) := by decide +kernel
theorem dX3_slotOf_26 : decode cX3_slotOf 26 = .ok (.aload_n 0, 1) := by decide +kernel
theorem dX3_slotOf_27 : decode cX3_slotOf 27 = .ok (.getfield 11, 3) := by decide +kernel
theorem dX3_slotOf_30 : decode cX3_slotOf 30 = .ok (.aload_n 0, 1) := by decide +kernel
theorem dX3_slotOf_31 : decode cX3_slotOf 31 = .ok (.getfield 30, 3) := by decide +kernel
theorem dX3_slotOf_34 : decode cX3_slotOf 34 = .ok (.iload_n 2, 1) := by decide +kernel
theorem dX3_slotOf_35 : decode cX3_slotOf 35 = .ok (.iaload, 1) := by decide +kernel
theorem dX3_slotOf_36 : decode cX3_slotOf 36 = .ok (.iaload, 1) := by decide +kernel
theorem dX3_slotOf_37 : decode cX3_slotOf 37 = .ok (.iload_n 1, 1) := by decide +kernel
theorem dX3_slotOf_38 : decode cX3_slotOf 38 = .ok (.if_icmp .eq 17, 3) := by decide +kernel
theorem dX3_slotOf_41 : decode cX3_slotOf 41 = .ok (.iload_n 2, 1) := by decide +kernel
theorem dX3_slotOf_42 : decode cX3_slotOf 42 = .ok (.iconst 1, 1) := by decide +kernel
theorem dX3_slotOf_43 : decode cX3_slotOf 43 = .ok (.iadd, 1) := by decide +kernel
theorem dX3_slotOf_44 : decode cX3_slotOf 44 = .ok (.sipush 1023, 3) := by decide +kernel
theorem dX3_slotOf_47 : decode cX3_slotOf 47 = .ok (.iand, 1) := by decide +kernel
theorem dX3_slotOf_48 : decode cX3_slotOf 48 = .ok (.istore_n 2, 1) := by decide +kernel
theorem dX3_slotOf_49 : decode cX3_slotOf 49 = .ok (.iinc 3 1, 3) := by decide +kernel
theorem dX3_slotOf_52 : decode cX3_slotOf 52 = .ok (.goto (-42), 3) := by decide +kernel
theorem dX3_slotOf_55 : decode cX3_slotOf 55 = .ok (.iload_n 2, 1) := by decide +kernel
theorem dX3_slotOf_56 : decode cX3_slotOf 56 = .ok (.ireturn, 1) := by decide +kernel
theorem dX4_init_0 : decode cX4_init 0 = .ok (.aload_n 0, 1) := by decide +kernel
theorem dX4_init_1 : decode cX4_init 1 = .ok (.invokespecial 3, 3) := by decide +kernel
theorem dX4_init_4 : decode cX4_init 4 = .ok (.aload_n 0, 1) := by decide +kernel
theorem dX4_init_5 : decode cX4_init 5 = .ok (.sipush 400, 3) := by decide +kernel
theorem dX4_init_8 : decode cX4_init 8 = .ok (.newarray .boolean, 2) := by decide +kernel
theorem dX4_init_10 : decode cX4_init 10 = .ok (.putfield 9, 3) := by decide +kernel
theorem dX4_init_13 : decode cX4_init 13 = .ok (.aload_n 0, 1) := by decide +kernel
theorem dX4_init_14 : decode cX4_init 14 = .ok (.sipush 400, 3) := by decide +kernel
theorem dX4_init_17 : decode cX4_init 17 = .ok (.newarray .boolean, 2) := by decide +kernel
theorem dX4_init_19 : decode cX4_init 19 = .ok (.putfield 15, 3) := by decide +kernel
theorem dX4_init_22 : decode cX4_init 22 = .ok (.aload_n 0, 1) := by decide +kernel
theorem dX4_init_23 : decode cX4_init 23 = .ok (.sipush 400, 3) := by decide +kernel
theorem dX4_init_26 : decode cX4_init 26 = .ok (.newarray .boolean, 2) := by decide +kernel
theorem dX4_init_28 : decode cX4_init 28 = .ok (.putfield 18, 3) := by decide +kernel
theorem dX4_init_31 : decode cX4_init 31 = .ok (.aload_n 0, 1) := by decide +kernel
theorem dX4_init_32 : decode cX4_init 32 = .ok (.sipush 400, 3) := by decide +kernel
theorem dX4_init_35 : decode cX4_init 35 = .ok (.newarray .int, 2) := by decide +kernel
theorem dX4_init_37 : decode cX4_init 37 = .ok (.putfield 21, 3) := by decide +kernel
theorem dX4_init_40 : decode cX4_init 40 = .ok (.aload_n 0, 1) := by decide +kernel
theorem dX4_init_41 : decode cX4_init 41 = .ok (.sipush 400, 3) := by decide +kernel
theorem dX4_init_44 : decode cX4_init 44 = .ok (.newarray .int, 2) := by decide +kernel
theorem dX4_init_46 : decode cX4_init 46 = .ok (.putfield 25, 3) := by decide +kernel
theorem dX4_init_49 : decode cX4_init 49 = .ok (.aload_n 0, 1) := by decide +kernel
theorem dX4_init_50 : decode cX4_init 50 = .ok (.sipush 400, 3) := by decide +kernel
theorem dX4_init_53 : decode cX4_init 53 = .ok (.newarray .int, 2) := by decide +kernel
theorem dX4_init_55 : decode cX4_init 55 = .ok (.putfield 28, 3) := by decide +kernel
theorem dX4_init_58 : decode cX4_init 58 = .ok (.aload_n 0, 1) := by decide +kernel
theorem dX4_init_59 : decode cX4_init 59 = .ok (.sipush 400, 3) := by decide +kernel
theorem dX4_init_62 : decode cX4_init 62 = .ok (.newarray .int, 2) := by decide +kernel
theorem dX4_init_64 : decode cX4_init 64 = .ok (.putfield 31, 3) := by decide +kernel
theorem dX4_init_67 : decode cX4_init 67 = .ok (.aload_n 0, 1) := by decide +kernel
theorem dX4_init_68 : decode cX4_init 68 = .ok (.sipush 400, 3) := by decide +kernel
theorem dX4_init_71 : decode cX4_init 71 = .ok (.newarray .int, 2) := by decide +kernel
theorem dX4_init_73 : decode cX4_init 73 = .ok (.putfield 34, 3) := by decide +kernel
theorem dX4_init_76 : decode cX4_init 76 = .ok (.aload_n 0, 1) := by decide +kernel
theorem dX4_init_77 : decode cX4_init 77 = .ok (.iconst (-1), 1) := by decide +kernel
theorem dX4_init_78 : decode cX4_init 78 = .ok (.putfield 37, 3) := by decide +kernel
theorem dX4_init_81 : decode cX4_init 81 = .ok (.return_, 1) := by decide +kernel
theorem dX4_forget_0 : decode cX4_forget 0 = .ok (.aload_n 0, 1) := by decide +kernel
theorem dX4_forget_1 : decode cX4_forget 1 = .ok (.iconst (-1), 1) := by decide +kernel
theorem dX4_forget_2 : decode cX4_forget 2 = .ok (.putfield 37, 3) := by decide +kernel
theorem dX4_forget_5 : decode cX4_forget 5 = .ok (.return_, 1) := by decide +kernel
theorem dX4_isBadState_0 : decode cX4_isBadState 0 = .ok (.aload_n 0, 1) := by decide +kernel
theorem dX4_isBadState_1 : decode cX4_isBadState 1 = .ok (.getfield 18, 3) := by decide +kernel
theorem dX4_isBadState_4 : decode cX4_isBadState 4 = .ok (.iload_n 1, 1) := by decide +kernel
theorem dX4_isBadState_5 : decode cX4_isBadState 5 = .ok (.baload, 1) := by decide +kernel
theorem dX4_isBadState_6 : decode cX4_isBadState 6 = .ok (.ireturn, 1) := by decide +kernel
theorem dX4_lookFor_0 : decode cX4_lookFor 0 = .ok (.iload_n 1, 1) := by decide +kernel
theorem dX4_lookFor_1 : decode cX4_lookFor 1 = .ok (.aload_n 0, 1) := by decide +kernel
theorem dX4_lookFor_2 : decode cX4_lookFor 2 = .ok (.getfield 37, 3) := by decide +kernel
theorem dX4_lookFor_5 : decode cX4_lookFor 5 = .ok (.if_icmp .ne 4, 3) := by decide +kernel
theorem dX4_lookFor_8 : decode cX4_lookFor 8 = .ok (.return_, 1) := by decide +kernel
theorem dX4_lookFor_9 : decode cX4_lookFor 9 = .ok (.aload_n 0, 1) := by decide +kernel
theorem dX4_lookFor_10 : decode cX4_lookFor 10 = .ok (.iload_n 1, 1) := by decide +kernel
theorem dX4_lookFor_11 : decode cX4_lookFor 11 = .ok (.aload_n 2, 1) := by decide +kernel
theorem dX4_lookFor_12 : decode cX4_lookFor 12 = .ok (.aload_n 3, 1) := by decide +kernel
theorem dX4_lookFor_13 : decode cX4_lookFor 13 = .ok (.invokevirtual 41, 3) := by decide +kernel
theorem dX4_lookFor_16 : decode cX4_lookFor 16 = .ok (.iconst 1, 1) := by decide +kernel
theorem dX4_lookFor_17 : decode cX4_lookFor 17 = .ok (.iload 4, 2) := by decide +kernel
theorem dX4_lookFor_19 : decode cX4_lookFor 19 = .ok (.ishl, 1) := by decide +kernel
theorem dX4_lookFor_20 : decode cX4_lookFor 20 = .ok (.iconst 1, 1) := by decide +kernel
theorem dX4_lookFor_21 : decode cX4_lookFor 21 = .ok (.isub, 1) := by decide +kernel
theorem dX4_lookFor_22 : decode cX4_lookFor 22 = .ok (.istore 5, 2) := by decide +kernel
theorem dX4_lookFor_24 : decode cX4_lookFor 24 = .ok (.iconst 0, 1) := by decide +kernel
theorem dX4_lookFor_25 : decode cX4_lookFor 25 = .ok (.istore 6, 2) := by decide +kernel
theorem dX4_lookFor_27 : decode cX4_lookFor 27 = .ok (.iload 6, 2) := by decide +kernel
theorem dX4_lookFor_29 : decode cX4_lookFor 29 = .ok (.aload_n 2, 1) := by decide +kernel
theorem dX4_lookFor_30 : decode cX4_lookFor 30 = .ok (.getfield 45, 3) := by decide +kernel
theorem dX4_lookFor_33 : decode cX4_lookFor 33 = .ok (.if_icmp .ge 38, 3) := by decide +kernel
theorem dX4_lookFor_36 : decode cX4_lookFor 36 = .ok (.aload_n 0, 1) := by decide +kernel
theorem dX4_lookFor_37 : decode cX4_lookFor 37 = .ok (.getfield 9, 3) := by decide +kernel
theorem dX4_lookFor_40 : decode cX4_lookFor 40 = .ok (.iload 6, 2) := by decide +kernel
theorem dX4_lookFor_42 : decode cX4_lookFor 42 = .ok (.baload, 1) := by decide +kernel
theorem dX4_lookFor_43 : decode cX4_lookFor 43 = .ok (.ifCond .eq 22, 3) := by decide +kernel
theorem dX4_lookFor_46 : decode cX4_lookFor 46 = .ok (.aload_n 0, 1) := by decide +kernel
theorem dX4_lookFor_47 : decode cX4_lookFor 47 = .ok (.getfield 21, 3) := by decide +kernel
theorem dX4_lookFor_50 : decode cX4_lookFor 50 = .ok (.iload 6, 2) := by decide +kernel
theorem dX4_lookFor_52 : decode cX4_lookFor 52 = .ok (.iaload, 1) := by decide +kernel
theorem dX4_lookFor_53 : decode cX4_lookFor 53 = .ok (.ifCond .ne 12, 3) := by decide +kernel
theorem dX4_lookFor_56 : decode cX4_lookFor 56 = .ok (.aload_n 0, 1) := by decide +kernel
theorem dX4_lookFor_57 : decode cX4_lookFor 57 = .ok (.iload 6, 2) := by decide +kernel
theorem dX4_lookFor_59 : decode cX4_lookFor 59 = .ok (.aload_n 2, 1) := by decide +kernel
theorem dX4_lookFor_60 : decode cX4_lookFor 60 = .ok (.iload 5, 2) := by decide +kernel
theorem dX4_lookFor_62 : decode cX4_lookFor 62 = .ok (.invokevirtual 50, 3) := by decide +kernel
theorem dX4_lookFor_65 : decode cX4_lookFor 65 = .ok (.iinc 6 1, 3) := by decide +kernel
theorem dX4_lookFor_68 : decode cX4_lookFor 68 = .ok (.goto (-41), 3) := by decide +kernel
theorem dX4_lookFor_71 : decode cX4_lookFor 71 = .ok (.aload_n 0, 1) := by decide +kernel
theorem dX4_lookFor_72 : decode cX4_lookFor 72 = .ok (.iload_n 1, 1) := by decide +kernel
theorem dX4_lookFor_73 : decode cX4_lookFor 73 = .ok (.putfield 37, 3) := by decide +kernel
theorem dX4_lookFor_76 : decode cX4_lookFor 76 = .ok (.return_, 1) := by decide +kernel
theorem dX4_begin_0 : decode cX4_begin 0 = .ok (.iconst 0, 1) := by decide +kernel
theorem dX4_begin_1 : decode cX4_begin 1 = .ok (.istore 4, 2) := by decide +kernel
theorem dX4_begin_3 : decode cX4_begin 3 = .ok (.iload 4, 2) := by decide +kernel
theorem dX4_begin_5 : decode cX4_begin 5 = .ok (.aload_n 2, 1) := by decide +kernel
theorem dX4_begin_6 : decode cX4_begin 6 = .ok (.getfield 45, 3) := by decide +kernel
theorem dX4_begin_9 : decode cX4_begin 9 = .ok (.if_icmp .ge 59, 3) := by decide +kernel
theorem dX4_begin_12 : decode cX4_begin 12 = .ok (.aload_n 0, 1) := by decide +kernel
theorem dX4_begin_13 : decode cX4_begin 13 = .ok (.getfield 9, 3) := by decide +kernel
theorem dX4_begin_16 : decode cX4_begin 16 = .ok (.iload 4, 2) := by decide +kernel
theorem dX4_begin_18 : decode cX4_begin 18 = .ok (.aload_n 3, 1) := by decide +kernel
theorem dX4_begin_19 : decode cX4_begin 19 = .ok (.iload_n 1, 1) := by decide +kernel
theorem dX4_begin_20 : decode cX4_begin 20 = .ok (.aload_n 2, 1) := by decide +kernel
theorem dX4_begin_21 : decode cX4_begin 21 = .ok (.iload 4, 2) := by decide +kernel
theorem dX4_begin_23 : decode cX4_begin 23 = .ok (.invokevirtual 54, 3) := by decide +kernel
theorem dX4_begin_26 : decode cX4_begin 26 = .ok (.invokevirtual 58, 3) := by decide +kernel
theorem dX4_begin_29 : decode cX4_begin 29 = .ok (.ifCond .ne 7, 3) := by decide +kernel
theorem dX4_begin_32 : decode cX4_begin 32 = .ok (.iconst 1, 1) := by decide +kernel
theorem dX4_begin_33 : decode cX4_begin 33 = .ok (.goto 4, 3) := by decide +kernel
theorem dX4_begin_36 : decode cX4_begin 36 = .ok (.iconst 0, 1) := by decide +kernel
theorem dX4_begin_37 : decode cX4_begin 37 = .ok (.bastore, 1) := by decide +kernel
theorem dX4_begin_38 : decode cX4_begin 38 = .ok (.aload_n 0, 1) := by decide +kernel
theorem dX4_begin_39 : decode cX4_begin 39 = .ok (.getfield 15, 3) := by decide +kernel
theorem dX4_begin_42 : decode cX4_begin 42 = .ok (.iload 4, 2) := by decide +kernel
theorem dX4_begin_44 : decode cX4_begin 44 = .ok (.iconst 0, 1) := by decide +kernel
theorem dX4_begin_45 : decode cX4_begin 45 = .ok (.bastore, 1) := by decide +kernel
theorem dX4_begin_46 : decode cX4_begin 46 = .ok (.aload_n 0, 1) := by decide +kernel
theorem dX4_begin_47 : decode cX4_begin 47 = .ok (.getfield 18, 3) := by decide +kernel
theorem dX4_begin_50 : decode cX4_begin 50 = .ok (.iload 4, 2) := by decide +kernel
theorem dX4_begin_52 : decode cX4_begin 52 = .ok (.iconst 0, 1) := by decide +kernel
theorem dX4_begin_53 : decode cX4_begin 53 = .ok (.bastore, 1) := by decide +kernel
theorem dX4_begin_54 : decode cX4_begin 54 = .ok (.aload_n 0, 1) := by decide +kernel
theorem dX4_begin_55 : decode cX4_begin 55 = .ok (.getfield 21, 3) := by decide +kernel
theorem dX4_begin_58 : decode cX4_begin 58 = .ok (.iload 4, 2) := by decide +kernel
theorem dX4_begin_60 : decode cX4_begin 60 = .ok (.iconst 0, 1) := by decide +kernel
theorem dX4_begin_61 : decode cX4_begin 61 = .ok (.iastore, 1) := by decide +kernel
theorem dX4_begin_62 : decode cX4_begin 62 = .ok (.iinc 4 1, 3) := by decide +kernel
theorem dX4_begin_65 : decode cX4_begin 65 = .ok (.goto (-62), 3) := by decide +kernel
theorem dX4_begin_68 : decode cX4_begin 68 = .ok (.aload_n 0, 1) := by decide +kernel
theorem dX4_begin_69 : decode cX4_begin 69 = .ok (.iconst 0, 1) := by decide +kernel
theorem dX4_begin_70 : decode cX4_begin 70 = .ok (.putfield 64, 3) := by decide +kernel
theorem dX4_begin_73 : decode cX4_begin 73 = .ok (.aload_n 0, 1) := by decide +kernel
theorem dX4_begin_74 : decode cX4_begin 74 = .ok (.iconst 0, 1) := by decide +kernel
theorem dX4_begin_75 : decode cX4_begin 75 = .ok (.putfield 67, 3) := by decide +kernel
theorem dX4_begin_78 : decode cX4_begin 78 = .ok (.aload_n 0, 1) := by decide +kernel
theorem dX4_begin_79 : decode cX4_begin 79 = .ok (.iconst 0, 1) := by decide +kernel
theorem dX4_begin_80 : decode cX4_begin 80 = .ok (.putfield 70, 3) := by decide +kernel
theorem dX4_begin_83 : decode cX4_begin 83 = .ok (.aload_n 0, 1) := by decide +kernel
theorem dX4_begin_84 : decode cX4_begin 84 = .ok (.iconst 0, 1) := by decide +kernel
theorem dX4_begin_85 : decode cX4_begin 85 = .ok (.putfield 73, 3) := by decide +kernel
theorem dX4_begin_88 : decode cX4_begin 88 = .ok (.return_, 1) := by decide +kernel
theorem dX4_walkFrom_0 : decode cX4_walkFrom 0 = .ok (.aload_n 0, 1) := by decide +kernel
theorem dX4_walkFrom_1 : decode cX4_walkFrom 1 = .ok (.iload_n 1, 1) := by decide +kernel
theorem dX4_walkFrom_2 : decode cX4_walkFrom 2 = .ok (.invokevirtual 76, 3) := by decide +kernel
theorem dX4_walkFrom_5 : decode cX4_walkFrom 5 = .ok (.aload_n 2, 1) := by decide +kernel
theorem dX4_walkFrom_6 : decode cX4_walkFrom 6 = .ok (.getfield 80, 3) := by decide +kernel
theorem dX4_walkFrom_9 : decode cX4_walkFrom 9 = .ok (.aload_n 2, 1) := by decide +kernel
theorem dX4_walkFrom_10 : decode cX4_walkFrom 10 = .ok (.getfield 45, 3) := by decide +kernel
theorem dX4_walkFrom_13 : decode cX4_walkFrom 13 = .ok (.iadd, 1) := by decide +kernel
theorem dX4_walkFrom_14 : decode cX4_walkFrom 14 = .ok (.istore 4, 2) := by decide +kernel
theorem dX4_walkFrom_16 : decode cX4_walkFrom 16 = .ok (.iconst 0, 1) := by decide +kernel
theorem dX4_walkFrom_17 : decode cX4_walkFrom 17 = .ok (.istore 5, 2) := by decide +kernel
theorem dX4_walkFrom_19 : decode cX4_walkFrom 19 = .ok (.iload 5, 2) := by decide +kernel
theorem dX4_walkFrom_21 : decode cX4_walkFrom 21 = .ok (.iload 4, 2) := by decide +kernel
theorem dX4_walkFrom_23 : decode cX4_walkFrom 23 = .ok (.if_icmp .ge 117, 3) := by decide +kernel
theorem dX4_walkFrom_26 : decode cX4_walkFrom 26 = .ok (.aload_n 0, 1) := by decide +kernel
theorem dX4_walkFrom_27 : decode cX4_walkFrom 27 = .ok (.getfield 64, 3) := by decide +kernel
theorem dX4_walkFrom_30 : decode cX4_walkFrom 30 = .ok (.ifCond .le 110, 3) := by decide +kernel
theorem dX4_walkFrom_33 : decode cX4_walkFrom 33 = .ok (.aload_n 0, 1) := by decide +kernel
theorem dX4_walkFrom_34 : decode cX4_walkFrom 34 = .ok (.getfield 31, 3) := by decide +kernel
theorem dX4_walkFrom_37 : decode cX4_walkFrom 37 = .ok (.aload_n 0, 1) := by decide +kernel
theorem dX4_walkFrom_38 : decode cX4_walkFrom 38 = .ok (.getfield 64, 3) := by decide +kernel
theorem dX4_walkFrom_41 : decode cX4_walkFrom 41 = .ok (.iconst 1, 1) := by decide +kernel
theorem dX4_walkFrom_42 : decode cX4_walkFrom 42 = .ok (.isub, 1) := by decide +kernel
theorem dX4_walkFrom_43 : decode cX4_walkFrom 43 = .ok (.iaload, 1) := by decide +kernel
theorem dX4_walkFrom_44 : decode cX4_walkFrom 44 = .ok (.istore 6, 2) := by decide +kernel
theorem dX4_walkFrom_46 : decode cX4_walkFrom 46 = .ok (.aload_n 0, 1) := by decide +kernel
theorem dX4_walkFrom_47 : decode cX4_walkFrom 47 = .ok (.getfield 28, 3) := by decide +kernel
theorem dX4_walkFrom_50 : decode cX4_walkFrom 50 = .ok (.iload 6, 2) := by decide +kernel
theorem dX4_walkFrom_52 : decode cX4_walkFrom 52 = .ok (.iaload, 1) := by decide +kernel
theorem dX4_walkFrom_53 : decode cX4_walkFrom 53 = .ok (.aload_n 2, 1) := by decide +kernel
theorem dX4_walkFrom_54 : decode cX4_walkFrom 54 = .ok (.iload 6, 2) := by decide +kernel
theorem dX4_walkFrom_56 : decode cX4_walkFrom 56 = .ok (.invokevirtual 83, 3) := by decide +kernel
theorem dX4_walkFrom_59 : decode cX4_walkFrom 59 = .ok (.if_icmp .ge 44, 3) := by decide +kernel
theorem dX4_walkFrom_62 : decode cX4_walkFrom 62 = .ok (.aload_n 2, 1) := by decide +kernel
theorem dX4_walkFrom_63 : decode cX4_walkFrom 63 = .ok (.iload 6, 2) := by decide +kernel
theorem dX4_walkFrom_65 : decode cX4_walkFrom 65 = .ok (.aload_n 0, 1) := by decide +kernel
theorem dX4_walkFrom_66 : decode cX4_walkFrom 66 = .ok (.getfield 28, 3) := by decide +kernel
theorem dX4_walkFrom_69 : decode cX4_walkFrom 69 = .ok (.iload 6, 2) := by decide +kernel
theorem dX4_walkFrom_71 : decode cX4_walkFrom 71 = .ok (.iaload, 1) := by decide +kernel
theorem dX4_walkFrom_72 : decode cX4_walkFrom 72 = .ok (.invokevirtual 86, 3) := by decide +kernel
theorem dX4_walkFrom_75 : decode cX4_walkFrom 75 = .ok (.istore 7, 2) := by decide +kernel
theorem dX4_walkFrom_77 : decode cX4_walkFrom 77 = .ok (.aload_n 0, 1) := by decide +kernel
theorem dX4_walkFrom_78 : decode cX4_walkFrom 78 = .ok (.getfield 28, 3) := by decide +kernel
theorem dX4_walkFrom_81 : decode cX4_walkFrom 81 = .ok (.iload 6, 2) := by decide +kernel
theorem dX4_walkFrom_83 : decode cX4_walkFrom 83 = .ok (.dup2, 1) := by decide +kernel
theorem dX4_walkFrom_84 : decode cX4_walkFrom 84 = .ok (.iaload, 1) := by decide +kernel
theorem dX4_walkFrom_85 : decode cX4_walkFrom 85 = .ok (.iconst 1, 1) := by decide +kernel
theorem dX4_walkFrom_86 : decode cX4_walkFrom 86 = .ok (.iadd, 1) := by decide +kernel
theorem dX4_walkFrom_87 : decode cX4_walkFrom 87 = .ok (.iastore, 1) := by decide +kernel
theorem dX4_walkFrom_88 : decode cX4_walkFrom 88 = .ok (.aload_n 0, 1) := by decide +kernel
theorem dX4_walkFrom_89 : decode cX4_walkFrom 89 = .ok (.iload 6, 2) := by decide +kernel
theorem dX4_walkFrom_91 : decode cX4_walkFrom 91 = .ok (.iload 7, 2) := by decide +kernel
theorem dX4_walkFrom_93 : decode cX4_walkFrom 93 = .ok (.iconst 0, 1) := by decide +kernel
theorem dX4_walkFrom_94 : decode cX4_walkFrom 94 = .ok (.invokestatic 90, 3) := by decide +kernel
theorem dX4_walkFrom_97 : decode cX4_walkFrom 97 = .ok (.invokevirtual 93, 3) := by decide +kernel
theorem dX4_walkFrom_100 : decode cX4_walkFrom 100 = .ok (.goto 34, 3) := by decide +kernel
theorem dX4_walkFrom_103 : decode cX4_walkFrom 103 = .ok (.aload_n 0, 1) := by decide +kernel
theorem dX4_walkFrom_104 : decode cX4_walkFrom 104 = .ok (.iload 6, 2) := by decide +kernel
theorem dX4_walkFrom_106 : decode cX4_walkFrom 106 = .ok (.invokevirtual 97, 3) := by decide +kernel
theorem dX4_walkFrom_109 : decode cX4_walkFrom 109 = .ok (.aload_n 0, 1) := by decide +kernel
theorem dX4_walkFrom_110 : decode cX4_walkFrom 110 = .ok (.getfield 25, 3) := by decide +kernel
theorem dX4_walkFrom_113 : decode cX4_walkFrom 113 = .ok (.iload 6, 2) := by decide +kernel
theorem dX4_walkFrom_115 : decode cX4_walkFrom 115 = .ok (.iaload, 1) := by decide +kernel
theorem dX4_walkFrom_116 : decode cX4_walkFrom 116 = .ok (.aload_n 0, 1) := by decide +kernel
theorem dX4_walkFrom_117 : decode cX4_walkFrom 117 = .ok (.getfield 21, 3) := by decide +kernel
theorem dX4_walkFrom_120 : decode cX4_walkFrom 120 = .ok (.iload 6, 2) := by decide +kernel
theorem dX4_walkFrom_122 : decode cX4_walkFrom 122 = .ok (.iaload, 1) := by decide +kernel
theorem dX4_walkFrom_123 : decode cX4_walkFrom 123 = .ok (.if_icmp .ne 11, 3) := by decide +kernel
theorem dX4_walkFrom_126 : decode cX4_walkFrom 126 = .ok (.aload_n 0, 1) := by decide +kernel
theorem dX4_walkFrom_127 : decode cX4_walkFrom 127 = .ok (.iload 6, 2) := by decide +kernel
theorem dX4_walkFrom_129 : decode cX4_walkFrom 129 = .ok (.aload_n 2, 1) := by decide +kernel
theorem dX4_walkFrom_130 : decode cX4_walkFrom 130 = .ok (.iload_n 3, 1) := by decide +kernel
theorem dX4_walkFrom_131 : decode cX4_walkFrom 131 = .ok (.invokevirtual 100, 3) := by decide +kernel
theorem dX4_walkFrom_134 : decode cX4_walkFrom 134 = .ok (.iinc 5 1, 3) := by decide +kernel
theorem dX4_walkFrom_137 : decode cX4_walkFrom 137 = .ok (.goto (-118), 3) := by decide +kernel
theorem dX4_walkFrom_140 : decode cX4_walkFrom 140 = .ok (.return_, 1) := by decide +kernel
theorem dX4_enter_0 : decode cX4_enter 0 = .ok (.aload_n 0, 1) := by decide +kernel
theorem dX4_enter_1 : decode cX4_enter 1 = .ok (.dup, 1) := by decide +kernel
theorem dX4_enter_2 : decode cX4_enter 2 = .ok (.getfield 70, 3) := by decide +kernel
theorem dX4_enter_5 : decode cX4_enter 5 = .ok (.iconst 1, 1) := by decide +kernel
theorem dX4_enter_6 : decode cX4_enter 6 = .ok (.iadd, 1) := by decide +kernel
theorem dX4_enter_7 : decode cX4_enter 7 = .ok (.putfield 70, 3) := by decide +kernel
theorem dX4_enter_10 : decode cX4_enter 10 = .ok (.aload_n 0, 1) := by decide +kernel
theorem dX4_enter_11 : decode cX4_enter 11 = .ok (.getfield 21, 3) := by decide +kernel
theorem dX4_enter_14 : decode cX4_enter 14 = .ok (.iload_n 1, 1) := by decide +kernel
theorem dX4_enter_15 : decode cX4_enter 15 = .ok (.aload_n 0, 1) := by decide +kernel
theorem dX4_enter_16 : decode cX4_enter 16 = .ok (.getfield 70, 3) := by decide +kernel
theorem dX4_enter_19 : decode cX4_enter 19 = .ok (.iastore, 1) := by decide +kernel
theorem dX4_enter_20 : decode cX4_enter 20 = .ok (.aload_n 0, 1) := by decide +kernel
theorem dX4_enter_21 : decode cX4_enter 21 = .ok (.getfield 25, 3) := by decide +kernel
theorem dX4_enter_24 : decode cX4_enter 24 = .ok (.iload_n 1, 1) := by decide +kernel
theorem dX4_enter_25 : decode cX4_enter 25 = .ok (.aload_n 0, 1) := by decide +kernel
theorem dX4_enter_26 : decode cX4_enter 26 = .ok (.getfield 70, 3) := by decide +kernel
theorem dX4_enter_29 : decode cX4_enter 29 = .ok (.iastore, 1) := by decide +kernel
theorem dX4_enter_30 : decode cX4_enter 30 = .ok (.aload_n 0, 1) := by decide +kernel
theorem dX4_enter_31 : decode cX4_enter 31 = .ok (.getfield 28, 3) := by decide +kernel
theorem dX4_enter_34 : decode cX4_enter 34 = .ok (.iload_n 1, 1) := by decide +kernel
theorem dX4_enter_35 : decode cX4_enter 35 = .ok (.iconst 0, 1) := by decide +kernel
theorem dX4_enter_36 : decode cX4_enter 36 = .ok (.iastore, 1) := by decide +kernel
theorem dX4_enter_37 : decode cX4_enter 37 = .ok (.aload_n 0, 1) := by decide +kernel
theorem dX4_enter_38 : decode cX4_enter 38 = .ok (.getfield 31, 3) := by decide +kernel
theorem dX4_enter_41 : decode cX4_enter 41 = .ok (.aload_n 0, 1) := by decide +kernel
theorem dX4_enter_42 : decode cX4_enter 42 = .ok (.getfield 64, 3) := by decide +kernel
theorem dX4_enter_45 : decode cX4_enter 45 = .ok (.iload_n 1, 1) := by decide +kernel
theorem dX4_enter_46 : decode cX4_enter 46 = .ok (.iastore, 1) := by decide +kernel
theorem dX4_enter_47 : decode cX4_enter 47 = .ok (.aload_n 0, 1) := by decide +kernel
theorem dX4_enter_48 : decode cX4_enter 48 = .ok (.dup, 1) := by decide +kernel
theorem dX4_enter_49 : decode cX4_enter 49 = .ok (.getfield 64, 3) := by decide +kernel
theorem dX4_enter_52 : decode cX4_enter 52 = .ok (.iconst 1, 1) := by decide +kernel
theorem dX4_enter_53 : decode cX4_enter 53 = .ok (.iadd, 1) := by decide +kernel
theorem dX4_enter_54 : decode cX4_enter 54 = .ok (.putfield 64, 3) := by decide +kernel
theorem dX4_enter_57 : decode cX4_enter 57 = .ok (.aload_n 0, 1) := by decide +kernel
theorem dX4_enter_58 : decode cX4_enter 58 = .ok (.getfield 34, 3) := by decide +kernel
theorem dX4_enter_61 : decode cX4_enter 61 = .ok (.aload_n 0, 1) := by decide +kernel
theorem dX4_enter_62 : decode cX4_enter 62 = .ok (.getfield 67, 3) := by decide +kernel
theorem dX4_enter_65 : decode cX4_enter 65 = .ok (.iload_n 1, 1) := by decide +kernel
theorem dX4_enter_66 : decode cX4_enter 66 = .ok (.iastore, 1) := by decide +kernel
theorem dX4_enter_67 : decode cX4_enter 67 = .ok (.aload_n 0, 1) := by decide +kernel
theorem dX4_enter_68 : decode cX4_enter 68 = .ok (.dup, 1) := by decide +kernel
theorem dX4_enter_69 : decode cX4_enter 69 = .ok (.getfield 67, 3) := by decide +kernel
theorem dX4_enter_72 : decode cX4_enter 72 = .ok (.iconst 1, 1) := by decide +kernel
theorem dX4_enter_73 : decode cX4_enter 73 = .ok (.iadd, 1) := by decide +kernel
theorem dX4_enter_74 : decode cX4_enter 74 = .ok (.putfield 67, 3) := by decide +kernel
theorem dX4_enter_77 : decode cX4_enter 77 = .ok (.aload_n 0, 1) := by decide +kernel
theorem dX4_enter_78 : decode cX4_enter 78 = .ok (.getfield 15, 3) := by decide +kernel
theorem dX4_enter_81 : decode cX4_enter 81 = .ok (.iload_n 1, 1) := by decide +kernel
theorem dX4_enter_82 : decode cX4_enter 82 = .ok (.iconst 1, 1) := by decide +kernel
theorem dX4_enter_83 : decode cX4_enter 83 = .ok (.bastore, 1) := by decide +kernel
theorem dX4_enter_84 : decode cX4_enter 84 = .ok (.return_, 1) := by decide +kernel
theorem dX4_follow_0 : decode cX4_follow 0 = .ok (.aload_n 0, 1) := by decide +kernel
theorem dX4_follow_1 : decode cX4_follow 1 = .ok (.getfield 9, 3) := by decide +kernel
theorem dX4_follow_4 : decode cX4_follow 4 = .ok (.iload_n 2, 1) := by decide +kernel
theorem dX4_follow_5 : decode cX4_follow 5 = .ok (.baload, 1) := by decide +kernel
theorem dX4_follow_6 : decode cX4_follow 6 = .ok (.ifCond .ne 4, 3) := by decide +kernel
theorem dX4_follow_9 : decode cX4_follow 9 = .ok (.return_, 1) := by decide +kernel
theorem dX4_follow_10 : decode cX4_follow 10 = .ok (.aload_n 0, 1) := by decide +kernel
theorem dX4_follow_11 : decode cX4_follow 11 = .ok (.getfield 21, 3) := by decide +kernel
theorem dX4_follow_14 : decode cX4_follow 14 = .ok (.iload_n 2, 1) := by decide +kernel
theorem dX4_follow_15 : decode cX4_follow 15 = .ok (.iaload, 1) := by decide +kernel
theorem dX4_follow_16 : decode cX4_follow 16 = .ok (.ifCond .ne 11, 3) := by decide +kernel
theorem dX4_follow_19 : decode cX4_follow 19 = .ok (.aload_n 0, 1) := by decide +kernel
theorem dX4_follow_20 : decode cX4_follow 20 = .ok (.iload_n 2, 1) := by decide +kernel
theorem dX4_follow_21 : decode cX4_follow 21 = .ok (.invokevirtual 76, 3) := by decide +kernel
theorem dX4_follow_24 : decode cX4_follow 24 = .ok (.goto 33, 3) := by decide +kernel
theorem dX4_follow_27 : decode cX4_follow 27 = .ok (.aload_n 0, 1) := by decide +kernel
theorem dX4_follow_28 : decode cX4_follow 28 = .ok (.getfield 15, 3) := by decide +kernel
theorem dX4_follow_31 : decode cX4_follow 31 = .ok (.iload_n 2, 1) := by decide +kernel
theorem dX4_follow_32 : decode cX4_follow 32 = .ok (.baload, 1) := by decide +kernel
theorem dX4_follow_33 : decode cX4_follow 33 = .ok (.ifCond .eq 24, 3) := by decide +kernel
theorem dX4_follow_36 : decode cX4_follow 36 = .ok (.aload_n 0, 1) := by decide +kernel
theorem dX4_follow_37 : decode cX4_follow 37 = .ok (.getfield 25, 3) := by decide +kernel
theorem dX4_follow_40 : decode cX4_follow 40 = .ok (.iload_n 1, 1) := by decide +kernel
theorem dX4_follow_41 : decode cX4_follow 41 = .ok (.aload_n 0, 1) := by decide +kernel
theorem dX4_follow_42 : decode cX4_follow 42 = .ok (.getfield 25, 3) := by decide +kernel
theorem dX4_follow_45 : decode cX4_follow 45 = .ok (.iload_n 1, 1) := by decide +kernel
theorem dX4_follow_46 : decode cX4_follow 46 = .ok (.iaload, 1) := by decide +kernel
theorem dX4_follow_47 : decode cX4_follow 47 = .ok (.aload_n 0, 1) := by decide +kernel
theorem dX4_follow_48 : decode cX4_follow 48 = .ok (.getfield 21, 3) := by decide +kernel
theorem dX4_follow_51 : decode cX4_follow 51 = .ok (.iload_n 2, 1) := by decide +kernel
theorem dX4_follow_52 : decode cX4_follow 52 = .ok (.iaload, 1) := by decide +kernel
theorem dX4_follow_53 : decode cX4_follow 53 = .ok (.invokestatic 103, 3) := by decide +kernel
theorem dX4_follow_56 : decode cX4_follow 56 = .ok (.iastore, 1) := by decide +kernel
theorem dX4_follow_57 : decode cX4_follow 57 = .ok (.return_, 1) := by decide +kernel
theorem dX4_leave_0 : decode cX4_leave 0 = .ok (.aload_n 0, 1) := by decide +kernel
theorem dX4_leave_1 : decode cX4_leave 1 = .ok (.dup, 1) := by decide +kernel
theorem dX4_leave_2 : decode cX4_leave 2 = .ok (.getfield 64, 3) := by decide +kernel
theorem dX4_leave_5 : decode cX4_leave 5 = .ok (.iconst 1, 1) := by decide +kernel
theorem dX4_leave_6 : decode cX4_leave 6 = .ok (.isub, 1) := by decide +kernel
theorem dX4_leave_7 : decode cX4_leave 7 = .ok (.putfield 64, 3) := by decide +kernel
theorem dX4_leave_10 : decode cX4_leave 10 = .ok (.aload_n 0, 1) := by decide +kernel
theorem dX4_leave_11 : decode cX4_leave 11 = .ok (.getfield 64, 3) := by decide +kernel
theorem dX4_leave_14 : decode cX4_leave 14 = .ok (.ifCond .le 36, 3) := by decide +kernel
theorem dX4_leave_17 : decode cX4_leave 17 = .ok (.aload_n 0, 1) := by decide +kernel
theorem dX4_leave_18 : decode cX4_leave 18 = .ok (.getfield 31, 3) := by decide +kernel
theorem dX4_leave_21 : decode cX4_leave 21 = .ok (.aload_n 0, 1) := by decide +kernel
theorem dX4_leave_22 : decode cX4_leave 22 = .ok (.getfield 64, 3) := by decide +kernel
theorem dX4_leave_25 : decode cX4_leave 25 = .ok (.iconst 1, 1) := by decide +kernel
theorem dX4_leave_26 : decode cX4_leave 26 = .ok (.isub, 1) := by decide +kernel
theorem dX4_leave_27 : decode cX4_leave 27 = .ok (.iaload, 1) := by decide +kernel
theorem dX4_leave_28 : decode cX4_leave 28 = .ok (.istore_n 2, 1) := by decide +kernel
theorem dX4_leave_29 : decode cX4_leave 29 = .ok (.aload_n 0, 1) := by decide +kernel
theorem dX4_leave_30 : decode cX4_leave 30 = .ok (.getfield 25, 3) := by decide +kernel
theorem dX4_leave_33 : decode cX4_leave 33 = .ok (.iload_n 2, 1) := by decide +kernel
theorem dX4_leave_34 : decode cX4_leave 34 = .ok (.aload_n 0, 1) := by decide +kernel
theorem dX4_leave_35 : decode cX4_leave 35 = .ok (.getfield 25, 3) := by decide +kernel
theorem dX4_leave_38 : decode cX4_leave 38 = .ok (.iload_n 2, 1) := by decide +kernel
theorem dX4_leave_39 : decode cX4_leave 39 = .ok (.iaload, 1) := by decide +kernel
theorem dX4_leave_40 : decode cX4_leave 40 = .ok (.aload_n 0, 1) := by decide +kernel
theorem dX4_leave_41 : decode cX4_leave 41 = .ok (.getfield 25, 3) := by decide +kernel
theorem dX4_leave_44 : decode cX4_leave 44 = .ok (.iload_n 1, 1) := by decide +kernel
theorem dX4_leave_45 : decode cX4_leave 45 = .ok (.iaload, 1) := by decide +kernel
theorem dX4_leave_46 : decode cX4_leave 46 = .ok (.invokestatic 103, 3) := by decide +kernel
theorem dX4_leave_49 : decode cX4_leave 49 = .ok (.iastore, 1) := by decide +kernel
theorem dX4_leave_50 : decode cX4_leave 50 = .ok (.return_, 1) := by decide +kernel
theorem dX4_close_0 : decode cX4_close 0 = .ok (.aload_n 0, 1) := by decide +kernel
theorem dX4_close_1 : decode cX4_close 1 = .ok (.iconst 0, 1) := by decide +kernel
theorem dX4_close_2 : decode cX4_close 2 = .ok (.putfield 108, 3) := by decide +kernel
theorem dX4_close_5 : decode cX4_close 5 = .ok (.aload_n 0, 1) := by decide +kernel
theorem dX4_close_6 : decode cX4_close 6 = .ok (.iconst 0, 1) := by decide +kernel
theorem dX4_close_7 : decode cX4_close 7 = .ok (.putfield 111, 3) := by decide +kernel
theorem dX4_close_10 : decode cX4_close 10 = .ok (.aload_n 0, 1) := by decide +kernel
theorem dX4_close_11 : decode cX4_close 11 = .ok (.getfield 67, 3) := by decide +kernel
theorem dX4_close_14 : decode cX4_close 14 = .ok (.istore 4, 2) := by decide +kernel
theorem dX4_close_16 : decode cX4_close 16 = .ok (.iconst 0, 1) := by decide +kernel
theorem dX4_close_17 : decode cX4_close 17 = .ok (.istore 5, 2) := by decide +kernel
theorem dX4_close_19 : decode cX4_close 19 = .ok (.iload 4, 2) := by decide +kernel
theorem dX4_close_21 : decode cX4_close 21 = .ok (.ifCond .le 44, 3) := by decide +kernel
theorem dX4_close_24 : decode cX4_close 24 = .ok (.iload 5, 2) := by decide +kernel
theorem dX4_close_26 : decode cX4_close 26 = .ok (.ifCond .ne 39, 3) := by decide +kernel
theorem dX4_close_29 : decode cX4_close 29 = .ok (.iinc 4 (-1), 3) := by decide +kernel
theorem dX4_close_32 : decode cX4_close 32 = .ok (.aload_n 0, 1) := by decide +kernel
theorem dX4_close_33 : decode cX4_close 33 = .ok (.aload_n 0, 1) := by decide +kernel
theorem dX4_close_34 : decode cX4_close 34 = .ok (.getfield 34, 3) := by decide +kernel
theorem dX4_close_37 : decode cX4_close 37 = .ok (.iload 4, 2) := by decide +kernel
theorem dX4_close_39 : decode cX4_close 39 = .ok (.iaload, 1) := by decide +kernel
theorem dX4_close_40 : decode cX4_close 40 = .ok (.aload_n 2, 1) := by decide +kernel
theorem dX4_close_41 : decode cX4_close 41 = .ok (.invokevirtual 115, 3) := by decide +kernel
theorem dX4_close_44 : decode cX4_close 44 = .ok (.aload_n 0, 1) := by decide +kernel
theorem dX4_close_45 : decode cX4_close 45 = .ok (.getfield 34, 3) := by decide +kernel
theorem dX4_close_48 : decode cX4_close 48 = .ok (.iload 4, 2) := by decide +kernel
theorem dX4_close_50 : decode cX4_close 50 = .ok (.iaload, 1) := by decide +kernel
theorem dX4_close_51 : decode cX4_close 51 = .ok (.iload_n 1, 1) := by decide +kernel
theorem dX4_close_52 : decode cX4_close 52 = .ok (.if_icmp .ne 7, 3) := by decide +kernel
theorem dX4_close_55 : decode cX4_close 55 = .ok (.iconst 1, 1) := by decide +kernel
theorem dX4_close_56 : decode cX4_close 56 = .ok (.goto 4, 3) := by decide +kernel
theorem dX4_close_59 : decode cX4_close 59 = .ok (.iconst 0, 1) := by decide +kernel
theorem dX4_close_60 : decode cX4_close 60 = .ok (.istore 5, 2) := by decide +kernel
theorem dX4_close_62 : decode cX4_close 62 = .ok (.goto (-43), 3) := by decide +kernel
theorem dX4_close_65 : decode cX4_close 65 = .ok (.aload_n 0, 1) := by decide +kernel
theorem dX4_close_66 : decode cX4_close 66 = .ok (.getfield 108, 3) := by decide +kernel
theorem dX4_close_69 : decode cX4_close 69 = .ok (.iload_n 3, 1) := by decide +kernel
theorem dX4_close_70 : decode cX4_close 70 = .ok (.iand, 1) := by decide +kernel
theorem dX4_close_71 : decode cX4_close 71 = .ok (.iload_n 3, 1) := by decide +kernel
theorem dX4_close_72 : decode cX4_close 72 = .ok (.if_icmp .ne 7, 3) := by decide +kernel
theorem dX4_close_75 : decode cX4_close 75 = .ok (.iconst 1, 1) := by decide +kernel
theorem dX4_close_76 : decode cX4_close 76 = .ok (.goto 4, 3) := by decide +kernel
theorem dX4_close_79 : decode cX4_close 79 = .ok (.iconst 0, 1) := by decide +kernel
theorem dX4_close_80 : decode cX4_close 80 = .ok (.istore 6, 2) := by decide +kernel
theorem dX4_close_82 : decode cX4_close 82 = .ok (.iload 6, 2) := by decide +kernel
theorem dX4_close_84 : decode cX4_close 84 = .ok (.ifCond .eq 19, 3) := by decide +kernel
theorem dX4_close_87 : decode cX4_close 87 = .ok (.aload_n 0, 1) := by decide +kernel
theorem dX4_close_88 : decode cX4_close 88 = .ok (.dup, 1) := by decide +kernel
theorem dX4_close_89 : decode cX4_close 89 = .ok (.getfield 73, 3) := by decide +kernel
theorem dX4_close_92 : decode cX4_close 92 = .ok (.aload_n 0, 1) := by decide +kernel
theorem dX4_close_93 : decode cX4_close 93 = .ok (.getfield 67, 3) := by decide +kernel
theorem dX4_close_96 : decode cX4_close 96 = .ok (.iload 4, 2) := by decide +kernel
theorem dX4_close_98 : decode cX4_close 98 = .ok (.isub, 1) := by decide +kernel
theorem dX4_close_99 : decode cX4_close 99 = .ok (.iadd, 1) := by decide +kernel
theorem dX4_close_100 : decode cX4_close 100 = .ok (.putfield 73, 3) := by decide +kernel
theorem dX4_close_103 : decode cX4_close 103 = .ok (.iload 4, 2) := by decide +kernel
theorem dX4_close_105 : decode cX4_close 105 = .ok (.istore 7, 2) := by decide +kernel
theorem dX4_close_107 : decode cX4_close 107 = .ok (.iload 7, 2) := by decide +kernel
theorem dX4_close_109 : decode cX4_close 109 = .ok (.aload_n 0, 1) := by decide +kernel
theorem dX4_close_110 : decode cX4_close 110 = .ok (.getfield 67, 3) := by decide +kernel
theorem dX4_close_113 : decode cX4_close 113 = .ok (.if_icmp .ge 51, 3) := by decide +kernel
theorem dX4_close_116 : decode cX4_close 116 = .ok (.aload_n 0, 1) := by decide +kernel
theorem dX4_close_117 : decode cX4_close 117 = .ok (.getfield 15, 3) := by decide +kernel
theorem dX4_close_120 : decode cX4_close 120 = .ok (.aload_n 0, 1) := by decide +kernel
theorem dX4_close_121 : decode cX4_close 121 = .ok (.getfield 34, 3) := by decide +kernel
theorem dX4_close_124 : decode cX4_close 124 = .ok (.iload 7, 2) := by decide +kernel
theorem dX4_close_126 : decode cX4_close 126 = .ok (.iaload, 1) := by decide +kernel
theorem dX4_close_127 : decode cX4_close 127 = .ok (.iconst 0, 1) := by decide +kernel
theorem dX4_close_128 : decode cX4_close 128 = .ok (.bastore, 1) := by decide +kernel
theorem dX4_close_129 : decode cX4_close 129 = .ok (.aload_n 0, 1) := by decide +kernel
theorem dX4_close_130 : decode cX4_close 130 = .ok (.getfield 18, 3) := by decide +kernel
theorem dX4_close_133 : decode cX4_close 133 = .ok (.aload_n 0, 1) := by decide +kernel
theorem dX4_close_134 : decode cX4_close 134 = .ok (.getfield 34, 3) := by decide +kernel
theorem dX4_close_137 : decode cX4_close 137 = .ok (.iload 7, 2) := by decide +kernel
theorem dX4_close_139 : decode cX4_close 139 = .ok (.iaload, 1) := by decide +kernel
theorem dX4_close_140 : decode cX4_close 140 = .ok (.iload 6, 2) := by decide +kernel
theorem dX4_close_142 : decode cX4_close 142 = .ok (.ifCond .ne 10, 3) := by decide +kernel
theorem dX4_close_145 : decode cX4_close 145 = .ok (.aload_n 0, 1) := by decide +kernel
theorem dX4_close_146 : decode cX4_close 146 = .ok (.getfield 111, 3) := by decide +kernel
theorem dX4_close_149 : decode cX4_close 149 = .ok (.ifCond .eq 7, 3) := by decide +kernel
theorem dX4_close_152 : decode cX4_close 152 = .ok (.iconst 1, 1) := by decide +kernel
theorem dX4_close_153 : decode cX4_close 153 = .ok (.goto 4, 3) := by decide +kernel
theorem dX4_close_156 : decode cX4_close 156 = .ok (.iconst 0, 1) := by decide +kernel
theorem dX4_close_157 : decode cX4_close 157 = .ok (.bastore, 1) := by decide +kernel
theorem dX4_close_158 : decode cX4_close 158 = .ok (.iinc 7 1, 3) := by decide +kernel
theorem dX4_close_161 : decode cX4_close 161 = .ok (.goto (-54), 3) := by decide +kernel
theorem dX4_close_164 : decode cX4_close 164 = .ok (.aload_n 0, 1) := by decide +kernel
theorem dX4_close_165 : decode cX4_close 165 = .ok (.iload 4, 2) := by decide +kernel
theorem dX4_close_167 : decode cX4_close 167 = .ok (.putfield 67, 3) := by decide +kernel
theorem dX4_close_170 : decode cX4_close 170 = .ok (.return_, 1) := by decide +kernel
theorem dX4_lookAt_0 : decode cX4_lookAt 0 = .ok (.aload_n 0, 1) := by decide +kernel
theorem dX4_lookAt_1 : decode cX4_lookAt 1 = .ok (.dup, 1) := by decide +kernel
theorem dX4_lookAt_2 : decode cX4_lookAt 2 = .ok (.getfield 108, 3) := by decide +kernel
theorem dX4_lookAt_5 : decode cX4_lookAt 5 = .ok (.aload_n 2, 1) := by decide +kernel
theorem dX4_lookAt_6 : decode cX4_lookAt 6 = .ok (.iload_n 1, 1) := by decide +kernel
theorem dX4_lookAt_7 : decode cX4_lookAt 7 = .ok (.invokevirtual 119, 3) := by decide +kernel
theorem dX4_lookAt_10 : decode cX4_lookAt 10 = .ok (.iconst (-1), 1) := by decide +kernel
theorem dX4_lookAt_11 : decode cX4_lookAt 11 = .ok (.ixor, 1) := by decide +kernel
theorem dX4_lookAt_12 : decode cX4_lookAt 12 = .ok (.ior, 1) := by decide +kernel
theorem dX4_lookAt_13 : decode cX4_lookAt 13 = .ok (.putfield 108, 3) := by decide +kernel
theorem dX4_lookAt_16 : decode cX4_lookAt 16 = .ok (.aload_n 2, 1) := by decide +kernel
theorem dX4_lookAt_17 : decode cX4_lookAt 17 = .ok (.iload_n 1, 1) := by decide +kernel
theorem dX4_lookAt_18 : decode cX4_lookAt 18 = .ok (.invokevirtual 83, 3) := by decide +kernel
theorem dX4_lookAt_21 : decode cX4_lookAt 21 = .ok (.istore_n 3, 1) := by decide +kernel
theorem dX4_lookAt_22 : decode cX4_lookAt 22 = .ok (.iconst 0, 1) := by decide +kernel
theorem dX4_lookAt_23 : decode cX4_lookAt 23 = .ok (.istore 4, 2) := by decide +kernel
theorem dX4_lookAt_25 : decode cX4_lookAt 25 = .ok (.iload 4, 2) := by decide +kernel
theorem dX4_lookAt_27 : decode cX4_lookAt 27 = .ok (.iload_n 3, 1) := by decide +kernel
theorem dX4_lookAt_28 : decode cX4_lookAt 28 = .ok (.if_icmp .ge 88, 3) := by decide +kernel
theorem dX4_lookAt_31 : decode cX4_lookAt 31 = .ok (.aload_n 2, 1) := by decide +kernel
theorem dX4_lookAt_32 : decode cX4_lookAt 32 = .ok (.iload_n 1, 1) := by decide +kernel
theorem dX4_lookAt_33 : decode cX4_lookAt 33 = .ok (.iload 4, 2) := by decide +kernel
theorem dX4_lookAt_35 : decode cX4_lookAt 35 = .ok (.invokevirtual 86, 3) := by decide +kernel
theorem dX4_lookAt_38 : decode cX4_lookAt 38 = .ok (.istore 5, 2) := by decide +kernel
theorem dX4_lookAt_40 : decode cX4_lookAt 40 = .ok (.iload 5, 2) := by decide +kernel
theorem dX4_lookAt_42 : decode cX4_lookAt 42 = .ok (.iconst 0, 1) := by decide +kernel
theorem dX4_lookAt_43 : decode cX4_lookAt 43 = .ok (.invokestatic 90, 3) := by decide +kernel
theorem dX4_lookAt_46 : decode cX4_lookAt 46 = .ok (.istore 6, 2) := by decide +kernel
theorem dX4_lookAt_48 : decode cX4_lookAt 48 = .ok (.aload_n 0, 1) := by decide +kernel
theorem dX4_lookAt_49 : decode cX4_lookAt 49 = .ok (.getfield 9, 3) := by decide +kernel
theorem dX4_lookAt_52 : decode cX4_lookAt 52 = .ok (.iload 6, 2) := by decide +kernel
theorem dX4_lookAt_54 : decode cX4_lookAt 54 = .ok (.baload, 1) := by decide +kernel
theorem dX4_lookAt_55 : decode cX4_lookAt 55 = .ok (.ifCond .eq 30, 3) := by decide +kernel
theorem dX4_lookAt_58 : decode cX4_lookAt 58 = .ok (.aload_n 0, 1) := by decide +kernel
theorem dX4_lookAt_59 : decode cX4_lookAt 59 = .ok (.getfield 15, 3) := by decide +kernel
theorem dX4_lookAt_62 : decode cX4_lookAt 62 = .ok (.iload 6, 2) := by decide +kernel
theorem dX4_lookAt_64 : decode cX4_lookAt 64 = .ok (.baload, 1) := by decide +kernel
theorem dX4_lookAt_65 : decode cX4_lookAt 65 = .ok (.ifCond .eq 20, 3) := by decide +kernel
theorem dX4_lookAt_68 : decode cX4_lookAt 68 = .ok (.aload_n 0, 1) := by decide +kernel
theorem dX4_lookAt_69 : decode cX4_lookAt 69 = .ok (.dup, 1) := by decide +kernel
theorem dX4_lookAt_70 : decode cX4_lookAt 70 = .ok (.getfield 108, 3) := by decide +kernel
theorem dX4_lookAt_73 : decode cX4_lookAt 73 = .ok (.iload 5, 2) := by decide +kernel
theorem dX4_lookAt_75 : decode cX4_lookAt 75 = .ok (.invokestatic 122, 3) := by decide +kernel
theorem dX4_lookAt_78 : decode cX4_lookAt 78 = .ok (.ior, 1) := by decide +kernel
theorem dX4_lookAt_79 : decode cX4_lookAt 79 = .ok (.putfield 108, 3) := by decide +kernel
theorem dX4_lookAt_82 : decode cX4_lookAt 82 = .ok (.goto 28, 3) := by decide +kernel
theorem dX4_lookAt_85 : decode cX4_lookAt 85 = .ok (.aload_n 0, 1) := by decide +kernel
theorem dX4_lookAt_86 : decode cX4_lookAt 86 = .ok (.getfield 9, 3) := by decide +kernel
theorem dX4_lookAt_89 : decode cX4_lookAt 89 = .ok (.iload 6, 2) := by decide +kernel
theorem dX4_lookAt_91 : decode cX4_lookAt 91 = .ok (.baload, 1) := by decide +kernel
theorem dX4_lookAt_92 : decode cX4_lookAt 92 = .ok (.ifCond .eq 18, 3) := by decide +kernel
theorem dX4_lookAt_95 : decode cX4_lookAt 95 = .ok (.aload_n 0, 1) := by decide +kernel
theorem dX4_lookAt_96 : decode cX4_lookAt 96 = .ok (.getfield 18, 3) := by decide +kernel
theorem dX4_lookAt_99 : decode cX4_lookAt 99 = .ok (.iload 6, 2) := by decide +kernel
theorem dX4_lookAt_101 : decode cX4_lookAt 101 = .ok (.baload, 1) := by decide +kernel
theorem dX4_lookAt_102 : decode cX4_lookAt 102 = .ok (.ifCond .eq 8, 3) := by decide +kernel
theorem dX4_lookAt_105 : decode cX4_lookAt 105 = .ok (.aload_n 0, 1) := by decide +kernel
theorem dX4_lookAt_106 : decode cX4_lookAt 106 = .ok (.iconst 1, 1) := by decide +kernel
theorem dX4_lookAt_107 : decode cX4_lookAt 107 = .ok (.putfield 111, 3) := by decide +kernel
theorem dX4_lookAt_110 : decode cX4_lookAt 110 = .ok (.iinc 4 1, 3) := by decide +kernel
theorem dX4_lookAt_113 : decode cX4_lookAt 113 = .ok (.goto (-88), 3) := by decide +kernel
theorem dX4_lookAt_116 : decode cX4_lookAt 116 = .ok (.return_, 1) := by decide +kernel
theorem dX5_init_0 : decode cX5_init 0 = .ok (.aload_n 0, 1) := by decide +kernel
theorem dX5_init_1 : decode cX5_init 1 = .ok (.invokespecial 3, 3) := by decide +kernel
theorem dX5_init_4 : decode cX5_init 4 = .ok (.aload_n 0, 1) := by decide +kernel
theorem dX5_init_5 : decode cX5_init 5 = .ok (.new 9, 3) := by decide +kernel
theorem dX5_init_8 : decode cX5_init 8 = .ok (.dup, 1) := by decide +kernel
theorem dX5_init_9 : decode cX5_init 9 = .ok (.invokespecial 11, 3) := by decide +kernel
theorem dX5_init_12 : decode cX5_init 12 = .ok (.putfield 12, 3) := by decide +kernel
theorem dX5_init_15 : decode cX5_init 15 = .ok (.aload_n 0, 1) := by decide +kernel
theorem dX5_init_16 : decode cX5_init 16 = .ok (.new 16, 3) := by decide +kernel
theorem dX5_init_19 : decode cX5_init 19 = .ok (.dup, 1) := by decide +kernel
theorem dX5_init_20 : decode cX5_init 20 = .ok (.invokespecial 18, 3) := by decide +kernel
theorem dX5_init_23 : decode cX5_init 23 = .ok (.putfield 19, 3) := by decide +kernel
theorem dX5_init_26 : decode cX5_init 26 = .ok (.aload_n 0, 1) := by decide +kernel
theorem dX5_init_27 : decode cX5_init 27 = .ok (.new 23, 3) := by decide +kernel
theorem dX5_init_30 : decode cX5_init 30 = .ok (.dup, 1) := by decide +kernel
theorem dX5_init_31 : decode cX5_init 31 = .ok (.invokespecial 25, 3) := by decide +kernel
theorem dX5_init_34 : decode cX5_init 34 = .ok (.putfield 26, 3) := by decide +kernel
theorem dX5_init_37 : decode cX5_init 37 = .ok (.aload_n 0, 1) := by decide +kernel
theorem dX5_init_38 : decode cX5_init 38 = .ok (.new 30, 3) := by decide +kernel
theorem dX5_init_41 : decode cX5_init 41 = .ok (.dup, 1) := by decide +kernel
theorem dX5_init_42 : decode cX5_init 42 = .ok (.invokespecial 32, 3) := by decide +kernel
theorem dX5_init_45 : decode cX5_init 45 = .ok (.putfield 33, 3) := by decide +kernel
theorem dX5_init_48 : decode cX5_init 48 = .ok (.return_, 1) := by decide +kernel
theorem dX5_addProcess_0 : decode cX5_addProcess 0 = .ok (.iload_n 1, 1) := by decide +kernel
theorem dX5_addProcess_1 : decode cX5_addProcess 1 = .ok (.iconst 1, 1) := by decide +kernel
theorem dX5_addProcess_2 : decode cX5_addProcess 2 = .ok (.bipush 8, 2) := by decide +kernel
theorem dX5_addProcess_4 : decode cX5_addProcess 4 = .ok (.invokestatic 37, 3) := by decide +kernel
theorem dX5_addProcess_7 : decode cX5_addProcess 7 = .ok (.ifCond .ne 13, 3) := by decide +kernel
theorem dX5_addProcess_10 : decode cX5_addProcess 10 = .ok (.new 41, 3) := by decide +kernel
theorem dX5_addProcess_13 : decode cX5_addProcess 13 = .ok (.dup, 1) := by decide +kernel
theorem dX5_addProcess_14 : decode cX5_addProcess 14 = .ok (.ldc 43, 2) := by decide +kernel
theorem dX5_addProcess_16 : decode cX5_addProcess 16 = .ok (.invokespecial 45, 3) := by decide +kernel
theorem dX5_addProcess_19 : decode cX5_addProcess 19 = .ok (.athrow, 1) := by decide +kernel
theorem dX5_addProcess_20 : decode cX5_addProcess 20 = .ok (.aload_n 0, 1) := by decide +kernel
theorem dX5_addProcess_21 : decode cX5_addProcess 21 = .ok (.getfield 12, 3) := by decide +kernel
theorem dX5_addProcess_24 : decode cX5_addProcess 24 = .ok (.getfield 48, 3) := by decide +kernel
theorem dX5_addProcess_27 : decode cX5_addProcess 27 = .ok (.iconst 5, 1) := by decide +kernel
theorem dX5_addProcess_28 : decode cX5_addProcess 28 = .ok (.if_icmp .lt 13, 3) := by decide +kernel
theorem dX5_addProcess_31 : decode cX5_addProcess 31 = .ok (.new 52, 3) := by decide +kernel
theorem dX5_addProcess_34 : decode cX5_addProcess 34 = .ok (.dup, 1) := by decide +kernel
theorem dX5_addProcess_35 : decode cX5_addProcess 35 = .ok (.ldc 54, 2) := by decide +kernel
theorem dX5_addProcess_37 : decode cX5_addProcess 37 = .ok (.invokespecial 56, 3) := by decide +kernel
theorem dX5_addProcess_40 : decode cX5_addProcess 40 = .ok (.athrow, 1) := by decide +kernel
theorem dX5_addProcess_41 : decode cX5_addProcess 41 = .ok (.aload_n 0, 1) := by decide +kernel
theorem dX5_addProcess_42 : decode cX5_addProcess 42 = .ok (.getfield 19, 3) := by decide +kernel
theorem dX5_addProcess_45 : decode cX5_addProcess 45 = .ok (.invokevirtual 57, 3) := by decide +kernel
theorem dX5_addProcess_48 : decode cX5_addProcess 48 = .ok (.aload_n 0, 1) := by decide +kernel
theorem dX5_addProcess_49 : decode cX5_addProcess 49 = .ok (.getfield 12, 3) := by decide +kernel
theorem dX5_addProcess_52 : decode cX5_addProcess 52 = .ok (.iload_n 1, 1) := by decide +kernel
theorem dX5_addProcess_53 : decode cX5_addProcess 53 = .ok (.invokevirtual 60, 3) := by decide +kernel
theorem dX5_addProcess_56 : decode cX5_addProcess 56 = .ok (.ireturn, 1) := by decide +kernel
theorem dX5_addVariable_0 : decode cX5_addVariable 0 = .ok (.iload_n 1, 1) := by decide +kernel
theorem dX5_addVariable_1 : decode cX5_addVariable 1 = .ok (.iconst 1, 1) := by decide +kernel
theorem dX5_addVariable_2 : decode cX5_addVariable 2 = .ok (.bipush 9, 2) := by decide +kernel
theorem dX5_addVariable_4 : decode cX5_addVariable 4 = .ok (.invokestatic 37, 3) := by decide +kernel
theorem dX5_addVariable_7 : decode cX5_addVariable 7 = .ok (.ifCond .ne 13, 3) := by decide +kernel
theorem dX5_addVariable_10 : decode cX5_addVariable 10 = .ok (.new 41, 3) := by decide +kernel
theorem dX5_addVariable_13 : decode cX5_addVariable 13 = .ok (.dup, 1) := by decide +kernel
theorem dX5_addVariable_14 : decode cX5_addVariable 14 = .ok (.ldc 64, 2) := by decide +kernel
theorem dX5_addVariable_16 : decode cX5_addVariable 16 = .ok (.invokespecial 45, 3) := by decide +kernel
theorem dX5_addVariable_19 : decode cX5_addVariable 19 = .ok (.athrow, 1) := by decide +kernel
theorem dX5_addVariable_20 : decode cX5_addVariable 20 = .ok (.iload_n 2, 1) := by decide +kernel
theorem dX5_addVariable_21 : decode cX5_addVariable 21 = .ok (.iconst 0, 1) := by decide +kernel
theorem dX5_addVariable_22 : decode cX5_addVariable 22 = .ok (.iload_n 1, 1) := by decide +kernel
theorem dX5_addVariable_23 : decode cX5_addVariable 23 = .ok (.invokestatic 37, 3) := by decide +kernel
theorem dX5_addVariable_26 : decode cX5_addVariable 26 = .ok (.ifCond .ne 13, 3) := by decide +kernel
theorem dX5_addVariable_29 : decode cX5_addVariable 29 = .ok (.new 41, 3) := by decide +kernel
theorem dX5_addVariable_32 : decode cX5_addVariable 32 = .ok (.dup, 1) := by decide +kernel
theorem dX5_addVariable_33 : decode cX5_addVariable 33 = .ok (.ldc 66, 2) := by decide +kernel
theorem dX5_addVariable_35 : decode cX5_addVariable 35 = .ok (.invokespecial 45, 3) := by decide +kernel
theorem dX5_addVariable_38 : decode cX5_addVariable 38 = .ok (.athrow, 1) := by decide +kernel
theorem dX5_addVariable_39 : decode cX5_addVariable 39 = .ok (.aload_n 0, 1) := by decide +kernel
theorem dX5_addVariable_40 : decode cX5_addVariable 40 = .ok (.getfield 12, 3) := by decide +kernel
theorem dX5_addVariable_43 : decode cX5_addVariable 43 = .ok (.getfield 68, 3) := by decide +kernel
theorem dX5_addVariable_46 : decode cX5_addVariable 46 = .ok (.iconst 4, 1) := by decide +kernel
theorem dX5_addVariable_47 : decode cX5_addVariable 47 = .ok (.if_icmp .lt 13, 3) := by decide +kernel
theorem dX5_addVariable_50 : decode cX5_addVariable 50 = .ok (.new 52, 3) := by decide +kernel
theorem dX5_addVariable_53 : decode cX5_addVariable 53 = .ok (.dup, 1) := by decide +kernel
theorem dX5_addVariable_54 : decode cX5_addVariable 54 = .ok (.ldc 71, 2) := by decide +kernel
theorem dX5_addVariable_56 : decode cX5_addVariable 56 = .ok (.invokespecial 56, 3) := by decide +kernel
theorem dX5_addVariable_59 : decode cX5_addVariable 59 = .ok (.athrow, 1) := by decide +kernel
theorem dX5_addVariable_60 : decode cX5_addVariable 60 = .ok (.aload_n 0, 1) := by decide +kernel
theorem dX5_addVariable_61 : decode cX5_addVariable 61 = .ok (.getfield 19, 3) := by decide +kernel
theorem dX5_addVariable_64 : decode cX5_addVariable 64 = .ok (.invokevirtual 57, 3) := by decide +kernel
theorem dX5_addVariable_67 : decode cX5_addVariable 67 = .ok (.aload_n 0, 1) := by decide +kernel
theorem dX5_addVariable_68 : decode cX5_addVariable 68 = .ok (.getfield 12, 3) := by decide +kernel
theorem dX5_addVariable_71 : decode cX5_addVariable 71 = .ok (.iload_n 1, 1) := by decide +kernel
theorem dX5_addVariable_72 : decode cX5_addVariable 72 = .ok (.iload_n 2, 1) := by decide +kernel
theorem dX5_addVariable_73 : decode cX5_addVariable 73 = .ok (.invokevirtual 73, 3) := by decide +kernel
theorem dX5_addVariable_76 : decode cX5_addVariable 76 = .ok (.ireturn, 1) := by decide +kernel
theorem dX5_addMove_0 : decode cX5_addMove 0 = .ok (.aload_n 0, 1) := by decide +kernel
theorem dX5_addMove_1 : decode cX5_addMove 1 = .ok (.getfield 12, 3) := by decide +kernel
theorem dX5_addMove_4 : decode cX5_addMove 4 = .ok (.iload_n 1, 1) := by decide +kernel
theorem dX5_addMove_5 : decode cX5_addMove 5 = .ok (.invokevirtual 77, 3) := by decide +kernel
theorem dX5_addMove_8 : decode cX5_addMove 8 = .ok (.ifCond .ne 13, 3) := by decide +kernel
theorem dX5_addMove_11 : decode cX5_addMove 11 = .ok (.new 81, 3) := by decide +kernel
theorem dX5_addMove_14 : decode cX5_addMove 14 = .ok (.dup, 1) := by decide +kernel
theorem dX5_addMove_15 : decode cX5_addMove 15 = .ok (.ldc 83, 2) := by decide +kernel
theorem dX5_addMove_17 : decode cX5_addMove 17 = .ok (.invokespecial 85, 3) := by decide +kernel
theorem dX5_addMove_20 : decode cX5_addMove 20 = .ok (.athrow, 1) := by decide +kernel
theorem dX5_addMove_21 : decode cX5_addMove 21 = .ok (.aload_n 0, 1) := by decide +kernel
theorem dX5_addMove_22 : decode cX5_addMove 22 = .ok (.getfield 12, 3) := by decide +kernel
theorem dX5_addMove_25 : decode cX5_addMove 25 = .ok (.iload_n 1, 1) := by decide +kernel
theorem dX5_addMove_26 : decode cX5_addMove 26 = .ok (.iload_n 2, 1) := by decide +kernel
theorem dX5_addMove_27 : decode cX5_addMove 27 = .ok (.invokevirtual 86, 3) := by decide +kernel
theorem dX5_addMove_30 : decode cX5_addMove 30 = .ok (.ifCond .eq 15, 3) := by decide +kernel
theorem dX5_addMove_33 : decode cX5_addMove 33 = .ok (.aload_n 0, 1) := by decide +kernel
theorem dX5_addMove_34 : decode cX5_addMove 34 = .ok (.getfield 12, 3) := by decide +kernel
theorem dX5_addMove_37 : decode cX5_addMove 37 = .ok (.iload_n 1, 1) := by decide +kernel
theorem dX5_addMove_38 : decode cX5_addMove 38 = .ok (.iload_n 3, 1) := by decide +kernel
theorem dX5_addMove_39 : decode cX5_addMove 39 = .ok (.invokevirtual 86, 3) := by decide +kernel
theorem dX5_addMove_42 : decode cX5_addMove 42 = .ok (.ifCond .ne 13, 3) := by decide +kernel
theorem dX5_addMove_45 : decode cX5_addMove 45 = .ok (.new 41, 3) := by decide +kernel
theorem dX5_addMove_48 : decode cX5_addMove 48 = .ok (.dup, 1) := by decide +kernel
theorem dX5_addMove_49 : decode cX5_addMove 49 = .ok (.ldc 90, 2) := by decide +kernel
theorem dX5_addMove_51 : decode cX5_addMove 51 = .ok (.invokespecial 45, 3) := by decide +kernel
theorem dX5_addMove_54 : decode cX5_addMove 54 = .ok (.athrow, 1) := by decide +kernel
theorem dX5_addMove_55 : decode cX5_addMove 55 = .ok (.iload 4, 2) := by decide +kernel
theorem dX5_addMove_57 : decode cX5_addMove 57 = .ok (.iconst 0, 1) := by decide +kernel
theorem dX5_addMove_58 : decode cX5_addMove 58 = .ok (.bipush 9, 2) := by decide +kernel
theorem dX5_addMove_60 : decode cX5_addMove 60 = .ok (.invokestatic 37, 3) := by decide +kernel
theorem dX5_addMove_63 : decode cX5_addMove 63 = .ok (.ifCond .ne 13, 3) := by decide +kernel
theorem dX5_addMove_66 : decode cX5_addMove 66 = .ok (.new 41, 3) := by decide +kernel
theorem dX5_addMove_69 : decode cX5_addMove 69 = .ok (.dup, 1) := by decide +kernel
theorem dX5_addMove_70 : decode cX5_addMove 70 = .ok (.ldc 92, 2) := by decide +kernel
theorem dX5_addMove_72 : decode cX5_addMove 72 = .ok (.invokespecial 45, 3) := by decide +kernel
theorem dX5_addMove_75 : decode cX5_addMove 75 = .ok (.athrow, 1) := by decide +kernel
theorem dX5_addMove_76 : decode cX5_addMove 76 = .ok (.aload_n 0, 1) := by decide +kernel
theorem dX5_addMove_77 : decode cX5_addMove 77 = .ok (.getfield 12, 3) := by decide +kernel
theorem dX5_addMove_80 : decode cX5_addMove 80 = .ok (.iload_n 1, 1) := by decide +kernel
theorem dX5_addMove_81 : decode cX5_addMove 81 = .ok (.invokevirtual 94, 3) := by decide +kernel
theorem dX5_addMove_84 : decode cX5_addMove 84 = .ok (.bipush 16, 2) := by decide +kernel
theorem dX5_addMove_86 : decode cX5_addMove 86 = .ok (.if_icmp .lt 13, 3) := by decide +kernel
theorem dX5_addMove_89 : decode cX5_addMove 89 = .ok (.new 52, 3) := by decide +kernel
theorem dX5_addMove_92 : decode cX5_addMove 92 = .ok (.dup, 1) := by decide +kernel
theorem dX5_addMove_93 : decode cX5_addMove 93 = .ok (.ldc 97, 2) := by decide +kernel
theorem dX5_addMove_95 : decode cX5_addMove 95 = .ok (.invokespecial 56, 3) := by decide +kernel
theorem dX5_addMove_98 : decode cX5_addMove 98 = .ok (.athrow, 1) := by decide +kernel
theorem dX5_addMove_99 : decode cX5_addMove 99 = .ok (.aload_n 0, 1) := by decide +kernel
theorem dX5_addMove_100 : decode cX5_addMove 100 = .ok (.getfield 19, 3) := by decide +kernel
theorem dX5_addMove_103 : decode cX5_addMove 103 = .ok (.invokevirtual 57, 3) := by decide +kernel
theorem dX5_addMove_106 : decode cX5_addMove 106 = .ok (.aload_n 0, 1) := by decide +kernel
theorem dX5_addMove_107 : decode cX5_addMove 107 = .ok (.getfield 12, 3) := by decide +kernel
theorem dX5_addMove_110 : decode cX5_addMove 110 = .ok (.iload_n 1, 1) := by decide +kernel
theorem dX5_addMove_111 : decode cX5_addMove 111 = .ok (.iload_n 2, 1) := by decide +kernel
theorem dX5_addMove_112 : decode cX5_addMove 112 = .ok (.iload_n 3, 1) := by decide +kernel
theorem dX5_addMove_113 : decode cX5_addMove 113 = .ok (.iload 4, 2) := by decide +kernel
theorem dX5_addMove_115 : decode cX5_addMove 115 = .ok (.invokevirtual 99, 3) := by decide +kernel
theorem dX5_addMove_118 : decode cX5_addMove 118 = .ok (.ireturn, 1) := by decide +kernel
theorem dX5_guard_0 : decode cX5_guard 0 = .ok (.aload_n 0, 1) := by decide +kernel
theorem dX5_guard_1 : decode cX5_guard 1 = .ok (.getfield 12, 3) := by decide +kernel
theorem dX5_guard_4 : decode cX5_guard 4 = .ok (.iload_n 1, 1) := by decide +kernel
theorem dX5_guard_5 : decode cX5_guard 5 = .ok (.iload_n 2, 1) := by decide +kernel
theorem dX5_guard_6 : decode cX5_guard 6 = .ok (.invokevirtual 103, 3) := by decide +kernel
theorem dX5_guard_9 : decode cX5_guard 9 = .ok (.astore 6, 2) := by decide +kernel
theorem dX5_guard_11 : decode cX5_guard 11 = .ok (.aload 6, 2) := by decide +kernel
theorem dX5_guard_13 : decode cX5_guard 13 = .ok (.ifnonnull 13, 3) := by decide +kernel
theorem dX5_guard_16 : decode cX5_guard 16 = .ok (.new 81, 3) := by decide +kernel
theorem dX5_guard_19 : decode cX5_guard 19 = .ok (.dup, 1) := by decide +kernel
theorem dX5_guard_20 : decode cX5_guard 20 = .ok (.ldc 107, 2) := by decide +kernel
theorem dX5_guard_22 : decode cX5_guard 22 = .ok (.invokespecial 85, 3) := by decide +kernel
theorem dX5_guard_25 : decode cX5_guard 25 = .ok (.athrow, 1) := by decide +kernel
theorem dX5_guard_26 : decode cX5_guard 26 = .ok (.iload_n 3, 1) := by decide +kernel
theorem dX5_guard_27 : decode cX5_guard 27 = .ok (.iconst 0, 1) := by decide +kernel
theorem dX5_guard_28 : decode cX5_guard 28 = .ok (.iconst 4, 1) := by decide +kernel
theorem dX5_guard_29 : decode cX5_guard 29 = .ok (.invokestatic 37, 3) := by decide +kernel
theorem dX5_guard_32 : decode cX5_guard 32 = .ok (.ifCond .ne 13, 3) := by decide +kernel
theorem dX5_guard_35 : decode cX5_guard 35 = .ok (.new 41, 3) := by decide +kernel
theorem dX5_guard_38 : decode cX5_guard 38 = .ok (.dup, 1) := by decide +kernel
theorem dX5_guard_39 : decode cX5_guard 39 = .ok (.ldc 109, 2) := by decide +kernel
theorem dX5_guard_41 : decode cX5_guard 41 = .ok (.invokespecial 45, 3) := by decide +kernel
theorem dX5_guard_44 : decode cX5_guard 44 = .ok (.athrow, 1) := by decide +kernel
theorem dX5_guard_45 : decode cX5_guard 45 = .ok (.iload_n 3, 1) := by decide +kernel
theorem dX5_guard_46 : decode cX5_guard 46 = .ok (.ifCond .eq 25, 3) := by decide +kernel
theorem dX5_guard_49 : decode cX5_guard 49 = .ok (.aload_n 0, 1) := by decide +kernel
theorem dX5_guard_50 : decode cX5_guard 50 = .ok (.getfield 12, 3) := by decide +kernel
theorem dX5_guard_53 : decode cX5_guard 53 = .ok (.iload 4, 2) := by decide +kernel
theorem dX5_guard_55 : decode cX5_guard 55 = .ok (.invokevirtual 111, 3) := by decide +kernel
theorem dX5_guard_58 : decode cX5_guard 58 = .ok (.ifCond .ne 13, 3) := by decide +kernel
theorem dX5_guard_61 : decode cX5_guard 61 = .ok (.new 41, 3) := by decide +kernel
theorem dX5_guard_64 : decode cX5_guard 64 = .ok (.dup, 1) := by decide +kernel
theorem dX5_guard_65 : decode cX5_guard 65 = .ok (.ldc 114, 2) := by decide +kernel
theorem dX5_guard_67 : decode cX5_guard 67 = .ok (.invokespecial 45, 3) := by decide +kernel
theorem dX5_guard_70 : decode cX5_guard 70 = .ok (.athrow, 1) := by decide +kernel
theorem dX5_guard_71 : decode cX5_guard 71 = .ok (.iload 5, 2) := by decide +kernel
theorem dX5_guard_73 : decode cX5_guard 73 = .ok (.iconst 0, 1) := by decide +kernel
theorem dX5_guard_74 : decode cX5_guard 74 = .ok (.bipush 9, 2) := by decide +kernel
theorem dX5_guard_76 : decode cX5_guard 76 = .ok (.invokestatic 37, 3) := by decide +kernel
theorem dX5_guard_79 : decode cX5_guard 79 = .ok (.ifCond .ne 13, 3) := by decide +kernel
theorem dX5_guard_82 : decode cX5_guard 82 = .ok (.new 41, 3) := by decide +kernel
theorem dX5_guard_85 : decode cX5_guard 85 = .ok (.dup, 1) := by decide +kernel
theorem dX5_guard_86 : decode cX5_guard 86 = .ok (.ldc 116, 2) := by decide +kernel
theorem dX5_guard_88 : decode cX5_guard 88 = .ok (.invokespecial 45, 3) := by decide +kernel
theorem dX5_guard_91 : decode cX5_guard 91 = .ok (.athrow, 1) := by decide +kernel
theorem dX5_guard_92 : decode cX5_guard 92 = .ok (.aload_n 0, 1) := by decide +kernel
theorem dX5_guard_93 : decode cX5_guard 93 = .ok (.getfield 19, 3) := by decide +kernel
theorem dX5_guard_96 : decode cX5_guard 96 = .ok (.invokevirtual 57, 3) := by decide +kernel
theorem dX5_guard_99 : decode cX5_guard 99 = .ok (.aload 6, 2) := by decide +kernel
theorem dX5_guard_101 : decode cX5_guard 101 = .ok (.iload_n 3, 1) := by decide +kernel
theorem dX5_guard_102 : decode cX5_guard 102 = .ok (.iload 4, 2) := by decide +kernel
theorem dX5_guard_104 : decode cX5_guard 104 = .ok (.iload 5, 2) := by decide +kernel
theorem dX5_guard_106 : decode cX5_guard 106 = .ok (.invokevirtual 118, 3) := by decide +kernel
theorem dX5_guard_109 : decode cX5_guard 109 = .ok (.ireturn, 1) := by decide +kernel
theorem dX5_deed_0 : decode cX5_deed 0 = .ok (.aload_n 0, 1) := by decide +kernel
theorem dX5_deed_1 : decode cX5_deed 1 = .ok (.getfield 12, 3) := by decide +kernel
theorem dX5_deed_4 : decode cX5_deed 4 = .ok (.iload_n 1, 1) := by decide +kernel
theorem dX5_deed_5 : decode cX5_deed 5 = .ok (.iload_n 2, 1) := by decide +kernel
theorem dX5_deed_6 : decode cX5_deed 6 = .ok (.invokevirtual 103, 3) := by decide +kernel
theorem dX5_deed_9 : decode cX5_deed 9 = .ok (.astore 6, 2) := by decide +kernel
theorem dX5_deed_11 : decode cX5_deed 11 = .ok (.aload 6, 2) := by decide +kernel
theorem dX5_deed_13 : decode cX5_deed 13 = .ok (.ifnonnull 13, 3) := by decide +kernel
theorem dX5_deed_16 : decode cX5_deed 16 = .ok (.new 81, 3) := by decide +kernel
theorem dX5_deed_19 : decode cX5_deed 19 = .ok (.dup, 1) := by decide +kernel
theorem dX5_deed_20 : decode cX5_deed 20 = .ok (.ldc 107, 2) := by decide +kernel
theorem dX5_deed_22 : decode cX5_deed 22 = .ok (.invokespecial 85, 3) := by decide +kernel
theorem dX5_deed_25 : decode cX5_deed 25 = .ok (.athrow, 1) := by decide +kernel
theorem dX5_deed_26 : decode cX5_deed 26 = .ok (.iload_n 3, 1) := by decide +kernel
theorem dX5_deed_27 : decode cX5_deed 27 = .ok (.iconst 0, 1) := by decide +kernel
theorem dX5_deed_28 : decode cX5_deed 28 = .ok (.iconst 2, 1) := by decide +kernel
theorem dX5_deed_29 : decode cX5_deed 29 = .ok (.invokestatic 37, 3) := by decide +kernel
theorem dX5_deed_32 : decode cX5_deed 32 = .ok (.ifCond .ne 13, 3) := by decide +kernel
theorem dX5_deed_35 : decode cX5_deed 35 = .ok (.new 41, 3) := by decide +kernel
theorem dX5_deed_38 : decode cX5_deed 38 = .ok (.dup, 1) := by decide +kernel
theorem dX5_deed_39 : decode cX5_deed 39 = .ok (.ldc 124, 2) := by decide +kernel
theorem dX5_deed_41 : decode cX5_deed 41 = .ok (.invokespecial 45, 3) := by decide +kernel
theorem dX5_deed_44 : decode cX5_deed 44 = .ok (.athrow, 1) := by decide +kernel
theorem dX5_deed_45 : decode cX5_deed 45 = .ok (.iload_n 3, 1) := by decide +kernel
theorem dX5_deed_46 : decode cX5_deed 46 = .ok (.ifCond .eq 25, 3) := by decide +kernel
theorem dX5_deed_49 : decode cX5_deed 49 = .ok (.aload_n 0, 1) := by decide +kernel
theorem dX5_deed_50 : decode cX5_deed 50 = .ok (.getfield 12, 3) := by decide +kernel
theorem dX5_deed_53 : decode cX5_deed 53 = .ok (.iload 4, 2) := by decide +kernel
theorem dX5_deed_55 : decode cX5_deed 55 = .ok (.invokevirtual 111, 3) := by decide +kernel
theorem dX5_deed_58 : decode cX5_deed 58 = .ok (.ifCond .ne 13, 3) := by decide +kernel
theorem dX5_deed_61 : decode cX5_deed 61 = .ok (.new 41, 3) := by decide +kernel
theorem dX5_deed_64 : decode cX5_deed 64 = .ok (.dup, 1) := by decide +kernel
theorem dX5_deed_65 : decode cX5_deed 65 = .ok (.ldc 114, 2) := by decide +kernel
theorem dX5_deed_67 : decode cX5_deed 67 = .ok (.invokespecial 45, 3) := by decide +kernel
theorem dX5_deed_70 : decode cX5_deed 70 = .ok (.athrow, 1) := by decide +kernel
theorem dX5_deed_71 : decode cX5_deed 71 = .ok (.iload 5, 2) := by decide +kernel
theorem dX5_deed_73 : decode cX5_deed 73 = .ok (.bipush (-9), 2) := by decide +kernel
theorem dX5_deed_75 : decode cX5_deed 75 = .ok (.bipush 9, 2) := by decide +kernel
theorem dX5_deed_77 : decode cX5_deed 77 = .ok (.invokestatic 37, 3) := by decide +kernel
theorem dX5_deed_80 : decode cX5_deed 80 = .ok (.ifCond .ne 13, 3) := by decide +kernel
theorem dX5_deed_83 : decode cX5_deed 83 = .ok (.new 41, 3) := by decide +kernel
theorem dX5_deed_86 : decode cX5_deed 86 = .ok (.dup, 1) := by decide +kernel
theorem dX5_deed_87 : decode cX5_deed 87 = .ok (.ldc 126, 2) := by decide +kernel
theorem dX5_deed_89 : decode cX5_deed 89 = .ok (.invokespecial 45, 3) := by decide +kernel
theorem dX5_deed_92 : decode cX5_deed 92 = .ok (.athrow, 1) := by decide +kernel
theorem dX5_deed_93 : decode cX5_deed 93 = .ok (.aload_n 0, 1) := by decide +kernel
theorem dX5_deed_94 : decode cX5_deed 94 = .ok (.getfield 19, 3) := by decide +kernel
theorem dX5_deed_97 : decode cX5_deed 97 = .ok (.invokevirtual 57, 3) := by decide +kernel
theorem dX5_deed_100 : decode cX5_deed 100 = .ok (.aload 6, 2) := by decide +kernel
theorem dX5_deed_102 : decode cX5_deed 102 = .ok (.iload_n 3, 1) := by decide +kernel
theorem dX5_deed_103 : decode cX5_deed 103 = .ok (.iload 4, 2) := by decide +kernel
theorem dX5_deed_105 : decode cX5_deed 105 = .ok (.iload 5, 2) := by decide +kernel
theorem dX5_deed_107 : decode cX5_deed 107 = .ok (.aload_n 0, 1) := by decide +kernel
theorem dX5_deed_108 : decode cX5_deed 108 = .ok (.getfield 12, 3) := by decide +kernel
theorem dX5_deed_111 : decode cX5_deed 111 = .ok (.iload 4, 2) := by decide +kernel
theorem dX5_deed_113 : decode cX5_deed 113 = .ok (.invokevirtual 128, 3) := by decide +kernel
theorem dX5_deed_116 : decode cX5_deed 116 = .ok (.invokevirtual 131, 3) := by decide +kernel
theorem dX5_deed_119 : decode cX5_deed 119 = .ok (.ireturn, 1) := by decide +kernel
theorem dX5_explore_0 : decode cX5_explore 0 = .ok (.aload_n 0, 1) := by decide +kernel
theorem dX5_explore_1 : decode cX5_explore 1 = .ok (.getfield 12, 3) := by decide +kernel
theorem dX5_explore_4 : decode cX5_explore 4 = .ok (.getfield 48, 3) := by decide +kernel
theorem dX5_explore_7 : decode cX5_explore 7 = .ok (.ifCond .ne 13, 3) := by decide +kernel
theorem dX5_explore_10 : decode cX5_explore 10 = .ok (.new 52, 3) := by decide +kernel
theorem dX5_explore_13 : decode cX5_explore 13 = .ok (.dup, 1) := by decide +kernel
theorem dX5_explore_14 : decode cX5_explore 14 = .ok (.ldc 139, 2) := by decide +kernel
theorem dX5_explore_16 : decode cX5_explore 16 = .ok (.invokespecial 56, 3) := by decide +kernel
theorem dX5_explore_19 : decode cX5_explore 19 = .ok (.athrow, 1) := by decide +kernel
theorem dX5_explore_20 : decode cX5_explore 20 = .ok (.aload_n 0, 1) := by decide +kernel
theorem dX5_explore_21 : decode cX5_explore 21 = .ok (.getfield 33, 3) := by decide +kernel
theorem dX5_explore_24 : decode cX5_explore 24 = .ok (.invokevirtual 141, 3) := by decide +kernel
theorem dX5_explore_27 : decode cX5_explore 27 = .ok (.aload_n 0, 1) := by decide +kernel
theorem dX5_explore_28 : decode cX5_explore 28 = .ok (.getfield 19, 3) := by decide +kernel
theorem dX5_explore_31 : decode cX5_explore 31 = .ok (.aload_n 0, 1) := by decide +kernel
theorem dX5_explore_32 : decode cX5_explore 32 = .ok (.getfield 12, 3) := by decide +kernel
theorem dX5_explore_35 : decode cX5_explore 35 = .ok (.invokevirtual 142, 3) := by decide +kernel
theorem dX5_explore_38 : decode cX5_explore 38 = .ok (.ireturn, 1) := by decide +kernel
theorem dX5_state_0 : decode cX5_state 0 = .ok (.aload_n 0, 1) := by decide +kernel
theorem dX5_state_1 : decode cX5_state 1 = .ok (.getfield 19, 3) := by decide +kernel
theorem dX5_state_4 : decode cX5_state 4 = .ok (.iload_n 1, 1) := by decide +kernel
theorem dX5_state_5 : decode cX5_state 5 = .ok (.invokevirtual 146, 3) := by decide +kernel
theorem dX5_state_8 : decode cX5_state 8 = .ok (.ifCond .ne 13, 3) := by decide +kernel
theorem dX5_state_11 : decode cX5_state 11 = .ok (.new 81, 3) := by decide +kernel
theorem dX5_state_14 : decode cX5_state 14 = .ok (.dup, 1) := by decide +kernel
theorem dX5_state_15 : decode cX5_state 15 = .ok (.ldc 149, 2) := by decide +kernel
theorem dX5_state_17 : decode cX5_state 17 = .ok (.invokespecial 85, 3) := by decide +kernel
theorem dX5_state_20 : decode cX5_state 20 = .ok (.athrow, 1) := by decide +kernel
theorem dX5_state_21 : decode cX5_state 21 = .ok (.iload_n 2, 1) := by decide +kernel
theorem dX5_state_22 : decode cX5_state 22 = .ok (.bipush 9, 2) := by decide +kernel
theorem dX5_state_24 : decode cX5_state 24 = .ok (.if_icmp .ne 12, 3) := by decide +kernel
theorem dX5_state_27 : decode cX5_state 27 = .ok (.aload_n 0, 1) := by decide +kernel
theorem dX5_state_28 : decode cX5_state 28 = .ok (.getfield 19, 3) := by decide +kernel
theorem dX5_state_31 : decode cX5_state 31 = .ok (.iload_n 1, 1) := by decide +kernel
theorem dX5_state_32 : decode cX5_state 32 = .ok (.invokevirtual 151, 3) := by decide +kernel
theorem dX5_state_35 : decode cX5_state 35 = .ok (.ireturn, 1) := by decide +kernel
theorem dX5_state_36 : decode cX5_state 36 = .ok (.iload_n 2, 1) := by decide +kernel
theorem dX5_state_37 : decode cX5_state 37 = .ok (.bipush 10, 2) := by decide +kernel
theorem dX5_state_39 : decode cX5_state 39 = .ok (.if_icmp .ne 12, 3) := by decide +kernel
theorem dX5_state_42 : decode cX5_state 42 = .ok (.aload_n 0, 1) := by decide +kernel
theorem dX5_state_43 : decode cX5_state 43 = .ok (.getfield 19, 3) := by decide +kernel
theorem dX5_state_46 : decode cX5_state 46 = .ok (.iload_n 1, 1) := by decide +kernel
theorem dX5_state_47 : decode cX5_state 47 = .ok (.invokevirtual 154, 3) := by decide +kernel
theorem dX5_state_50 : decode cX5_state 50 = .ok (.ireturn, 1) := by decide +kernel
theorem dX5_state_51 : decode cX5_state 51 = .ok (.aload_n 0, 1) := by decide +kernel
theorem dX5_state_52 : decode cX5_state 52 = .ok (.getfield 12, 3) := by decide +kernel
theorem dX5_state_55 : decode cX5_state 55 = .ok (.iload_n 2, 1) := by decide +kernel
theorem dX5_state_56 : decode cX5_state 56 = .ok (.invokevirtual 77, 3) := by decide +kernel
theorem dX5_state_59 : decode cX5_state 59 = .ok (.ifCond .eq 16, 3) := by decide +kernel
theorem dX5_state_62 : decode cX5_state 62 = .ok (.aload_n 0, 1) := by decide +kernel
theorem dX5_state_63 : decode cX5_state 63 = .ok (.getfield 19, 3) := by decide +kernel
theorem dX5_state_66 : decode cX5_state 66 = .ok (.iload_n 1, 1) := by decide +kernel
theorem dX5_state_67 : decode cX5_state 67 = .ok (.invokevirtual 157, 3) := by decide +kernel
theorem dX5_state_70 : decode cX5_state 70 = .ok (.iload_n 2, 1) := by decide +kernel
theorem dX5_state_71 : decode cX5_state 71 = .ok (.invokestatic 160, 3) := by decide +kernel
theorem dX5_state_74 : decode cX5_state 74 = .ok (.ireturn, 1) := by decide +kernel
theorem dX5_state_75 : decode cX5_state 75 = .ok (.iload_n 2, 1) := by decide +kernel
theorem dX5_state_76 : decode cX5_state 76 = .ok (.iconst 5, 1) := by decide +kernel
theorem dX5_state_77 : decode cX5_state 77 = .ok (.if_icmp .lt 31, 3) := by decide +kernel
theorem dX5_state_80 : decode cX5_state 80 = .ok (.aload_n 0, 1) := by decide +kernel
theorem dX5_state_81 : decode cX5_state 81 = .ok (.getfield 12, 3) := by decide +kernel
theorem dX5_state_84 : decode cX5_state 84 = .ok (.iload_n 2, 1) := by decide +kernel
theorem dX5_state_85 : decode cX5_state 85 = .ok (.iconst 5, 1) := by decide +kernel
theorem dX5_state_86 : decode cX5_state 86 = .ok (.isub, 1) := by decide +kernel
theorem dX5_state_87 : decode cX5_state 87 = .ok (.invokevirtual 111, 3) := by decide +kernel
theorem dX5_state_90 : decode cX5_state 90 = .ok (.ifCond .eq 18, 3) := by decide +kernel
theorem dX5_state_93 : decode cX5_state 93 = .ok (.aload_n 0, 1) := by decide +kernel
theorem dX5_state_94 : decode cX5_state 94 = .ok (.getfield 19, 3) := by decide +kernel
theorem dX5_state_97 : decode cX5_state 97 = .ok (.iload_n 1, 1) := by decide +kernel
theorem dX5_state_98 : decode cX5_state 98 = .ok (.invokevirtual 157, 3) := by decide +kernel
theorem dX5_state_101 : decode cX5_state 101 = .ok (.iload_n 2, 1) := by decide +kernel
theorem dX5_state_102 : decode cX5_state 102 = .ok (.iconst 5, 1) := by decide +kernel
theorem dX5_state_103 : decode cX5_state 103 = .ok (.isub, 1) := by decide +kernel
theorem dX5_state_104 : decode cX5_state 104 = .ok (.invokestatic 163, 3) := by decide +kernel
theorem dX5_state_107 : decode cX5_state 107 = .ok (.ireturn, 1) := by decide +kernel
theorem dX5_state_108 : decode cX5_state 108 = .ok (.new 81, 3) := by decide +kernel
theorem dX5_state_111 : decode cX5_state 111 = .ok (.dup, 1) := by decide +kernel
theorem dX5_state_112 : decode cX5_state 112 = .ok (.ldc 166, 2) := by decide +kernel
theorem dX5_state_114 : decode cX5_state 114 = .ok (.invokespecial 85, 3) := by decide +kernel
theorem dX5_state_117 : decode cX5_state 117 = .ok (.athrow, 1) := by decide +kernel
theorem dX5_step_0 : decode cX5_step 0 = .ok (.aload_n 0, 1) := by decide +kernel
theorem dX5_step_1 : decode cX5_step 1 = .ok (.getfield 19, 3) := by decide +kernel
theorem dX5_step_4 : decode cX5_step 4 = .ok (.iload_n 1, 1) := by decide +kernel
theorem dX5_step_5 : decode cX5_step 5 = .ok (.invokevirtual 146, 3) := by decide +kernel
theorem dX5_step_8 : decode cX5_step 8 = .ok (.ifCond .ne 13, 3) := by decide +kernel
theorem dX5_step_11 : decode cX5_step 11 = .ok (.new 81, 3) := by decide +kernel
theorem dX5_step_14 : decode cX5_step 14 = .ok (.dup, 1) := by decide +kernel
theorem dX5_step_15 : decode cX5_step 15 = .ok (.ldc 149, 2) := by decide +kernel
theorem dX5_step_17 : decode cX5_step 17 = .ok (.invokespecial 85, 3) := by decide +kernel
theorem dX5_step_20 : decode cX5_step 20 = .ok (.athrow, 1) := by decide +kernel
theorem dX5_step_21 : decode cX5_step 21 = .ok (.iload_n 2, 1) := by decide +kernel
theorem dX5_step_22 : decode cX5_step 22 = .ok (.iconst 0, 1) := by decide +kernel
theorem dX5_step_23 : decode cX5_step 23 = .ok (.aload_n 0, 1) := by decide +kernel
theorem dX5_step_24 : decode cX5_step 24 = .ok (.getfield 19, 3) := by decide +kernel
theorem dX5_step_27 : decode cX5_step 27 = .ok (.iload_n 1, 1) := by decide +kernel
theorem dX5_step_28 : decode cX5_step 28 = .ok (.invokevirtual 151, 3) := by decide +kernel
theorem dX5_step_31 : decode cX5_step 31 = .ok (.iconst 1, 1) := by decide +kernel
theorem dX5_step_32 : decode cX5_step 32 = .ok (.isub, 1) := by decide +kernel
theorem dX5_step_33 : decode cX5_step 33 = .ok (.invokestatic 37, 3) := by decide +kernel
theorem dX5_step_36 : decode cX5_step 36 = .ok (.ifCond .ne 13, 3) := by decide +kernel
theorem dX5_step_39 : decode cX5_step 39 = .ok (.new 81, 3) := by decide +kernel
theorem dX5_step_42 : decode cX5_step 42 = .ok (.dup, 1) := by decide +kernel
theorem dX5_step_43 : decode cX5_step 43 = .ok (.ldc 168, 2) := by decide +kernel
theorem dX5_step_45 : decode cX5_step 45 = .ok (.invokespecial 85, 3) := by decide +kernel
theorem dX5_step_48 : decode cX5_step 48 = .ok (.athrow, 1) := by decide +kernel
theorem dX5_step_49 : decode cX5_step 49 = .ok (.iload_n 3, 1) := by decide +kernel
theorem dX5_step_50 : decode cX5_step 50 = .ok (.iconst 0, 1) := by decide +kernel
theorem dX5_step_51 : decode cX5_step 51 = .ok (.iconst 4, 1) := by decide +kernel
theorem dX5_step_52 : decode cX5_step 52 = .ok (.invokestatic 37, 3) := by decide +kernel
theorem dX5_step_55 : decode cX5_step 55 = .ok (.ifCond .ne 13, 3) := by decide +kernel
theorem dX5_step_58 : decode cX5_step 58 = .ok (.new 81, 3) := by decide +kernel
theorem dX5_step_61 : decode cX5_step 61 = .ok (.dup, 1) := by decide +kernel
theorem dX5_step_62 : decode cX5_step 62 = .ok (.ldc 170, 2) := by decide +kernel
theorem dX5_step_64 : decode cX5_step 64 = .ok (.invokespecial 85, 3) := by decide +kernel
theorem dX5_step_67 : decode cX5_step 67 = .ok (.athrow, 1) := by decide +kernel
theorem dX5_step_68 : decode cX5_step 68 = .ok (.aload_n 0, 1) := by decide +kernel
theorem dX5_step_69 : decode cX5_step 69 = .ok (.getfield 19, 3) := by decide +kernel
theorem dX5_step_72 : decode cX5_step 72 = .ok (.iload_n 1, 1) := by decide +kernel
theorem dX5_step_73 : decode cX5_step 73 = .ok (.iload_n 2, 1) := by decide +kernel
theorem dX5_step_74 : decode cX5_step 74 = .ok (.invokevirtual 172, 3) := by decide +kernel
theorem dX5_step_77 : decode cX5_step 77 = .ok (.iload_n 3, 1) := by decide +kernel
theorem dX5_step_78 : decode cX5_step 78 = .ok (.invokestatic 175, 3) := by decide +kernel
theorem dX5_step_81 : decode cX5_step 81 = .ok (.ireturn, 1) := by decide +kernel
theorem dX5_addFact_0 : decode cX5_addFact 0 = .ok (.aload_n 0, 1) := by decide +kernel
theorem dX5_addFact_1 : decode cX5_addFact 1 = .ok (.iload_n 1, 1) := by decide +kernel
theorem dX5_addFact_2 : decode cX5_addFact 2 = .ok (.iload_n 2, 1) := by decide +kernel
theorem dX5_addFact_3 : decode cX5_addFact 3 = .ok (.iload_n 3, 1) := by decide +kernel
theorem dX5_addFact_4 : decode cX5_addFact 4 = .ok (.invokevirtual 178, 3) := by decide +kernel
theorem dX5_addFact_7 : decode cX5_addFact 7 = .ok (.ifCond .ne 13, 3) := by decide +kernel
theorem dX5_addFact_10 : decode cX5_addFact 10 = .ok (.new 41, 3) := by decide +kernel
theorem dX5_addFact_13 : decode cX5_addFact 13 = .ok (.dup, 1) := by decide +kernel
theorem dX5_addFact_14 : decode cX5_addFact 14 = .ok (.ldc 181, 2) := by decide +kernel
theorem dX5_addFact_16 : decode cX5_addFact 16 = .ok (.invokespecial 45, 3) := by decide +kernel
theorem dX5_addFact_19 : decode cX5_addFact 19 = .ok (.athrow, 1) := by decide +kernel
theorem dX5_addFact_20 : decode cX5_addFact 20 = .ok (.aload_n 0, 1) := by decide +kernel
theorem dX5_addFact_21 : decode cX5_addFact 21 = .ok (.getfield 26, 3) := by decide +kernel
theorem dX5_addFact_24 : decode cX5_addFact 24 = .ok (.getfield 183, 3) := by decide +kernel
theorem dX5_addFact_27 : decode cX5_addFact 27 = .ok (.bipush 12, 2) := by decide +kernel
theorem dX5_addFact_29 : decode cX5_addFact 29 = .ok (.if_icmp .lt 13, 3) := by decide +kernel
theorem dX5_addFact_32 : decode cX5_addFact 32 = .ok (.new 52, 3) := by decide +kernel
theorem dX5_addFact_35 : decode cX5_addFact 35 = .ok (.dup, 1) := by decide +kernel
theorem dX5_addFact_36 : decode cX5_addFact 36 = .ok (.ldc 186, 2) := by decide +kernel
theorem dX5_addFact_38 : decode cX5_addFact 38 = .ok (.invokespecial 56, 3) := by decide +kernel
theorem dX5_addFact_41 : decode cX5_addFact 41 = .ok (.athrow, 1) := by decide +kernel
theorem dX5_addFact_42 : decode cX5_addFact 42 = .ok (.aload_n 0, 1) := by decide +kernel
theorem dX5_addFact_43 : decode cX5_addFact 43 = .ok (.getfield 26, 3) := by decide +kernel
theorem dX5_addFact_46 : decode cX5_addFact 46 = .ok (.iload_n 1, 1) := by decide +kernel
theorem dX5_addFact_47 : decode cX5_addFact 47 = .ok (.iload_n 2, 1) := by decide +kernel
theorem dX5_addFact_48 : decode cX5_addFact 48 = .ok (.iload_n 3, 1) := by decide +kernel
theorem dX5_addFact_49 : decode cX5_addFact 49 = .ok (.invokevirtual 188, 3) := by decide +kernel
theorem dX5_addFact_52 : decode cX5_addFact 52 = .ok (.ireturn, 1) := by decide +kernel
theorem dX5_holds_0 : decode cX5_holds 0 = .ok (.aload_n 0, 1) := by decide +kernel
theorem dX5_holds_1 : decode cX5_holds 1 = .ok (.getfield 26, 3) := by decide +kernel
theorem dX5_holds_4 : decode cX5_holds 4 = .ok (.iload_n 1, 1) := by decide +kernel
theorem dX5_holds_5 : decode cX5_holds 5 = .ok (.invokevirtual 191, 3) := by decide +kernel
theorem dX5_holds_8 : decode cX5_holds 8 = .ok (.ifCond .ne 13, 3) := by decide +kernel
theorem dX5_holds_11 : decode cX5_holds 11 = .ok (.new 81, 3) := by decide +kernel
theorem dX5_holds_14 : decode cX5_holds 14 = .ok (.dup, 1) := by decide +kernel
theorem dX5_holds_15 : decode cX5_holds 15 = .ok (.ldc 194, 2) := by decide +kernel
theorem dX5_holds_17 : decode cX5_holds 17 = .ok (.invokespecial 85, 3) := by decide +kernel
theorem dX5_holds_20 : decode cX5_holds 20 = .ok (.athrow, 1) := by decide +kernel
theorem dX5_holds_21 : decode cX5_holds 21 = .ok (.aload_n 0, 1) := by decide +kernel
theorem dX5_holds_22 : decode cX5_holds 22 = .ok (.getfield 19, 3) := by decide +kernel
theorem dX5_holds_25 : decode cX5_holds 25 = .ok (.iload_n 2, 1) := by decide +kernel
theorem dX5_holds_26 : decode cX5_holds 26 = .ok (.invokevirtual 146, 3) := by decide +kernel
theorem dX5_holds_29 : decode cX5_holds 29 = .ok (.ifCond .ne 13, 3) := by decide +kernel
theorem dX5_holds_32 : decode cX5_holds 32 = .ok (.new 81, 3) := by decide +kernel
theorem dX5_holds_35 : decode cX5_holds 35 = .ok (.dup, 1) := by decide +kernel
theorem dX5_holds_36 : decode cX5_holds 36 = .ok (.ldc 149, 2) := by decide +kernel
theorem dX5_holds_38 : decode cX5_holds 38 = .ok (.invokespecial 85, 3) := by decide +kernel
theorem dX5_holds_41 : decode cX5_holds 41 = .ok (.athrow, 1) := by decide +kernel
theorem dX5_holds_42 : decode cX5_holds 42 = .ok (.aload_n 0, 1) := by decide +kernel
theorem dX5_holds_43 : decode cX5_holds 43 = .ok (.getfield 26, 3) := by decide +kernel
theorem dX5_holds_46 : decode cX5_holds 46 = .ok (.iload_n 1, 1) := by decide +kernel
theorem dX5_holds_47 : decode cX5_holds 47 = .ok (.aload_n 0, 1) := by decide +kernel
theorem dX5_holds_48 : decode cX5_holds 48 = .ok (.getfield 19, 3) := by decide +kernel
theorem dX5_holds_51 : decode cX5_holds 51 = .ok (.iload_n 2, 1) := by decide +kernel
theorem dX5_holds_52 : decode cX5_holds 52 = .ok (.invokevirtual 157, 3) := by decide +kernel
theorem dX5_holds_55 : decode cX5_holds 55 = .ok (.invokevirtual 196, 3) := by decide +kernel
theorem dX5_holds_58 : decode cX5_holds 58 = .ok (.ireturn, 1) := by decide +kernel
theorem dX5_leads_0 : decode cX5_leads 0 = .ok (.aload_n 0, 1) := by decide +kernel
theorem dX5_leads_1 : decode cX5_leads 1 = .ok (.getfield 26, 3) := by decide +kernel
theorem dX5_leads_4 : decode cX5_leads 4 = .ok (.iload_n 1, 1) := by decide +kernel
theorem dX5_leads_5 : decode cX5_leads 5 = .ok (.invokevirtual 191, 3) := by decide +kernel
theorem dX5_leads_8 : decode cX5_leads 8 = .ok (.ifCond .eq 14, 3) := by decide +kernel
theorem dX5_leads_11 : decode cX5_leads 11 = .ok (.aload_n 0, 1) := by decide +kernel
theorem dX5_leads_12 : decode cX5_leads 12 = .ok (.getfield 26, 3) := by decide +kernel
theorem dX5_leads_15 : decode cX5_leads 15 = .ok (.iload_n 2, 1) := by decide +kernel
theorem dX5_leads_16 : decode cX5_leads 16 = .ok (.invokevirtual 191, 3) := by decide +kernel
theorem dX5_leads_19 : decode cX5_leads 19 = .ok (.ifCond .ne 13, 3) := by decide +kernel
theorem dX5_leads_22 : decode cX5_leads 22 = .ok (.new 81, 3) := by decide +kernel
theorem dX5_leads_25 : decode cX5_leads 25 = .ok (.dup, 1) := by decide +kernel
theorem dX5_leads_26 : decode cX5_leads 26 = .ok (.ldc 194, 2) := by decide +kernel
theorem dX5_leads_28 : decode cX5_leads 28 = .ok (.invokespecial 85, 3) := by decide +kernel
theorem dX5_leads_31 : decode cX5_leads 31 = .ok (.athrow, 1) := by decide +kernel
theorem dX5_leads_32 : decode cX5_leads 32 = .ok (.aload_n 0, 1) := by decide +kernel
theorem dX5_leads_33 : decode cX5_leads 33 = .ok (.getfield 19, 3) := by decide +kernel
theorem dX5_leads_36 : decode cX5_leads 36 = .ok (.invokevirtual 199, 3) := by decide +kernel
theorem dX5_leads_39 : decode cX5_leads 39 = .ok (.ifCond .ne 13, 3) := by decide +kernel
theorem dX5_leads_42 : decode cX5_leads 42 = .ok (.new 52, 3) := by decide +kernel
theorem dX5_leads_45 : decode cX5_leads 45 = .ok (.dup, 1) := by decide +kernel
theorem dX5_leads_46 : decode cX5_leads 46 = .ok (.ldc 203, 2) := by decide +kernel
theorem dX5_leads_48 : decode cX5_leads 48 = .ok (.invokespecial 56, 3) := by decide +kernel
theorem dX5_leads_51 : decode cX5_leads 51 = .ok (.athrow, 1) := by decide +kernel
theorem dX5_leads_52 : decode cX5_leads 52 = .ok (.aload_n 0, 1) := by decide +kernel
theorem dX5_leads_53 : decode cX5_leads 53 = .ok (.getfield 33, 3) := by decide +kernel
theorem dX5_leads_56 : decode cX5_leads 56 = .ok (.iload_n 2, 1) := by decide +kernel
theorem dX5_leads_57 : decode cX5_leads 57 = .ok (.aload_n 0, 1) := by decide +kernel
theorem dX5_leads_58 : decode cX5_leads 58 = .ok (.getfield 19, 3) := by decide +kernel
theorem dX5_leads_61 : decode cX5_leads 61 = .ok (.aload_n 0, 1) := by decide +kernel
theorem dX5_leads_62 : decode cX5_leads 62 = .ok (.getfield 26, 3) := by decide +kernel
theorem dX5_leads_65 : decode cX5_leads 65 = .ok (.aload_n 0, 1) := by decide +kernel
theorem dX5_leads_66 : decode cX5_leads 66 = .ok (.getfield 12, 3) := by decide +kernel
theorem dX5_leads_69 : decode cX5_leads 69 = .ok (.getfield 48, 3) := by decide +kernel
theorem dX5_leads_72 : decode cX5_leads 72 = .ok (.invokevirtual 214, 3) := by decide +kernel
theorem dX5_leads_75 : decode cX5_leads 75 = .ok (.iconst 0, 1) := by decide +kernel
theorem dX5_leads_76 : decode cX5_leads 76 = .ok (.istore_n 3, 1) := by decide +kernel
theorem dX5_leads_77 : decode cX5_leads 77 = .ok (.iload_n 3, 1) := by decide +kernel
theorem dX5_leads_78 : decode cX5_leads 78 = .ok (.aload_n 0, 1) := by decide +kernel
theorem dX5_leads_79 : decode cX5_leads 79 = .ok (.getfield 19, 3) := by decide +kernel
theorem dX5_leads_82 : decode cX5_leads 82 = .ok (.getfield 211, 3) := by decide +kernel
theorem dX5_leads_85 : decode cX5_leads 85 = .ok (.if_icmp .ge 41, 3) := by decide +kernel
theorem dX5_leads_88 : decode cX5_leads 88 = .ok (.aload_n 0, 1) := by decide +kernel
theorem dX5_leads_89 : decode cX5_leads 89 = .ok (.getfield 33, 3) := by decide +kernel
theorem dX5_leads_92 : decode cX5_leads 92 = .ok (.iload_n 3, 1) := by decide +kernel
theorem dX5_leads_93 : decode cX5_leads 93 = .ok (.invokevirtual 218, 3) := by decide +kernel
theorem dX5_leads_96 : decode cX5_leads 96 = .ok (.ifCond .eq 24, 3) := by decide +kernel
theorem dX5_leads_99 : decode cX5_leads 99 = .ok (.aload_n 0, 1) := by decide +kernel
theorem dX5_leads_100 : decode cX5_leads 100 = .ok (.getfield 26, 3) := by decide +kernel
theorem dX5_leads_103 : decode cX5_leads 103 = .ok (.iload_n 1, 1) := by decide +kernel
theorem dX5_leads_104 : decode cX5_leads 104 = .ok (.aload_n 0, 1) := by decide +kernel
theorem dX5_leads_105 : decode cX5_leads 105 = .ok (.getfield 19, 3) := by decide +kernel
theorem dX5_leads_108 : decode cX5_leads 108 = .ok (.iload_n 3, 1) := by decide +kernel
theorem dX5_leads_109 : decode cX5_leads 109 = .ok (.invokevirtual 157, 3) := by decide +kernel
theorem dX5_leads_112 : decode cX5_leads 112 = .ok (.invokevirtual 196, 3) := by decide +kernel
theorem dX5_leads_115 : decode cX5_leads 115 = .ok (.ifCond .eq 5, 3) := by decide +kernel
theorem dX5_leads_118 : decode cX5_leads 118 = .ok (.iload_n 3, 1) := by decide +kernel
theorem dX5_leads_119 : decode cX5_leads 119 = .ok (.ireturn, 1) := by decide +kernel
theorem dX5_leads_120 : decode cX5_leads 120 = .ok (.iinc 3 1, 3) := by decide +kernel
theorem dX5_leads_123 : decode cX5_leads 123 = .ok (.goto (-46), 3) := by decide +kernel
theorem dX5_leads_126 : decode cX5_leads 126 = .ok (.iconst (-1), 1) := by decide +kernel
theorem dX5_leads_127 : decode cX5_leads 127 = .ok (.ireturn, 1) := by decide +kernel
theorem dX5_isBad_0 : decode cX5_isBad 0 = .ok (.aload_n 0, 1) := by decide +kernel
theorem dX5_isBad_1 : decode cX5_isBad 1 = .ok (.getfield 26, 3) := by decide +kernel
theorem dX5_isBad_4 : decode cX5_isBad 4 = .ok (.iload_n 1, 1) := by decide +kernel
theorem dX5_isBad_5 : decode cX5_isBad 5 = .ok (.invokevirtual 191, 3) := by decide +kernel
theorem dX5_isBad_8 : decode cX5_isBad 8 = .ok (.ifCond .ne 13, 3) := by decide +kernel
theorem dX5_isBad_11 : decode cX5_isBad 11 = .ok (.new 81, 3) := by decide +kernel
theorem dX5_isBad_14 : decode cX5_isBad 14 = .ok (.dup, 1) := by decide +kernel
theorem dX5_isBad_15 : decode cX5_isBad 15 = .ok (.ldc 194, 2) := by decide +kernel
theorem dX5_isBad_17 : decode cX5_isBad 17 = .ok (.invokespecial 85, 3) := by decide +kernel
theorem dX5_isBad_20 : decode cX5_isBad 20 = .ok (.athrow, 1) := by decide +kernel
theorem dX5_isBad_21 : decode cX5_isBad 21 = .ok (.aload_n 0, 1) := by decide +kernel
theorem dX5_isBad_22 : decode cX5_isBad 22 = .ok (.getfield 19, 3) := by decide +kernel
theorem dX5_isBad_25 : decode cX5_isBad 25 = .ok (.iload_n 2, 1) := by decide +kernel
theorem dX5_isBad_26 : decode cX5_isBad 26 = .ok (.invokevirtual 146, 3) := by decide +kernel
theorem dX5_isBad_29 : decode cX5_isBad 29 = .ok (.ifCond .ne 13, 3) := by decide +kernel
theorem dX5_isBad_32 : decode cX5_isBad 32 = .ok (.new 81, 3) := by decide +kernel
theorem dX5_isBad_35 : decode cX5_isBad 35 = .ok (.dup, 1) := by decide +kernel
theorem dX5_isBad_36 : decode cX5_isBad 36 = .ok (.ldc 149, 2) := by decide +kernel
theorem dX5_isBad_38 : decode cX5_isBad 38 = .ok (.invokespecial 85, 3) := by decide +kernel
theorem dX5_isBad_41 : decode cX5_isBad 41 = .ok (.athrow, 1) := by decide +kernel
theorem dX5_isBad_42 : decode cX5_isBad 42 = .ok (.aload_n 0, 1) := by decide +kernel
theorem dX5_isBad_43 : decode cX5_isBad 43 = .ok (.getfield 33, 3) := by decide +kernel
theorem dX5_isBad_46 : decode cX5_isBad 46 = .ok (.iload_n 1, 1) := by decide +kernel
theorem dX5_isBad_47 : decode cX5_isBad 47 = .ok (.aload_n 0, 1) := by decide +kernel
theorem dX5_isBad_48 : decode cX5_isBad 48 = .ok (.getfield 19, 3) := by decide +kernel
theorem dX5_isBad_51 : decode cX5_isBad 51 = .ok (.aload_n 0, 1) := by decide +kernel
theorem dX5_isBad_52 : decode cX5_isBad 52 = .ok (.getfield 26, 3) := by decide +kernel
theorem dX5_isBad_55 : decode cX5_isBad 55 = .ok (.aload_n 0, 1) := by decide +kernel
theorem dX5_isBad_56 : decode cX5_isBad 56 = .ok (.getfield 12, 3) := by decide +kernel
theorem dX5_isBad_59 : decode cX5_isBad 59 = .ok (.getfield 48, 3) := by decide +kernel
theorem dX5_isBad_62 : decode cX5_isBad 62 = .ok (.invokevirtual 214, 3) := by decide +kernel
theorem dX5_isBad_65 : decode cX5_isBad 65 = .ok (.aload_n 0, 1) := by decide +kernel
theorem dX5_isBad_66 : decode cX5_isBad 66 = .ok (.getfield 33, 3) := by decide +kernel
theorem dX5_isBad_69 : decode cX5_isBad 69 = .ok (.iload_n 2, 1) := by decide +kernel
theorem dX5_isBad_70 : decode cX5_isBad 70 = .ok (.invokevirtual 218, 3) := by decide +kernel
theorem dX5_isBad_73 : decode cX5_isBad 73 = .ok (.ireturn, 1) := by decide +kernel
theorem dX5_way_0 : decode cX5_way 0 = .ok (.aload_n 0, 1) := by decide +kernel
theorem dX5_way_1 : decode cX5_way 1 = .ok (.getfield 19, 3) := by decide +kernel
theorem dX5_way_4 : decode cX5_way 4 = .ok (.iload_n 1, 1) := by decide +kernel
theorem dX5_way_5 : decode cX5_way 5 = .ok (.invokevirtual 146, 3) := by decide +kernel
theorem dX5_way_8 : decode cX5_way 8 = .ok (.ifCond .ne 13, 3) := by decide +kernel
theorem dX5_way_11 : decode cX5_way 11 = .ok (.new 81, 3) := by decide +kernel
theorem dX5_way_14 : decode cX5_way 14 = .ok (.dup, 1) := by decide +kernel
theorem dX5_way_15 : decode cX5_way 15 = .ok (.ldc 149, 2) := by decide +kernel
theorem dX5_way_17 : decode cX5_way 17 = .ok (.invokespecial 85, 3) := by decide +kernel
theorem dX5_way_20 : decode cX5_way 20 = .ok (.athrow, 1) := by decide +kernel
theorem dX5_way_21 : decode cX5_way 21 = .ok (.iload_n 2, 1) := by decide +kernel
theorem dX5_way_22 : decode cX5_way 22 = .ok (.iconst 0, 1) := by decide +kernel
theorem dX5_way_23 : decode cX5_way 23 = .ok (.sipush 400, 3) := by decide +kernel
theorem dX5_way_26 : decode cX5_way 26 = .ok (.invokestatic 37, 3) := by decide +kernel
theorem dX5_way_29 : decode cX5_way 29 = .ok (.ifCond .ne 13, 3) := by decide +kernel
theorem dX5_way_32 : decode cX5_way 32 = .ok (.new 81, 3) := by decide +kernel
theorem dX5_way_35 : decode cX5_way 35 = .ok (.dup, 1) := by decide +kernel
theorem dX5_way_36 : decode cX5_way 36 = .ok (.ldc 224, 2) := by decide +kernel
theorem dX5_way_38 : decode cX5_way 38 = .ok (.invokespecial 85, 3) := by decide +kernel
theorem dX5_way_41 : decode cX5_way 41 = .ok (.athrow, 1) := by decide +kernel
theorem dX5_way_42 : decode cX5_way 42 = .ok (.iload_n 3, 1) := by decide +kernel
theorem dX5_way_43 : decode cX5_way 43 = .ok (.iconst 0, 1) := by decide +kernel
theorem dX5_way_44 : decode cX5_way 44 = .ok (.iconst 1, 1) := by decide +kernel
theorem dX5_way_45 : decode cX5_way 45 = .ok (.invokestatic 37, 3) := by decide +kernel
theorem dX5_way_48 : decode cX5_way 48 = .ok (.ifCond .ne 13, 3) := by decide +kernel
theorem dX5_way_51 : decode cX5_way 51 = .ok (.new 81, 3) := by decide +kernel
theorem dX5_way_54 : decode cX5_way 54 = .ok (.dup, 1) := by decide +kernel
theorem dX5_way_55 : decode cX5_way 55 = .ok (.ldc 226, 2) := by decide +kernel
theorem dX5_way_57 : decode cX5_way 57 = .ok (.invokespecial 85, 3) := by decide +kernel
theorem dX5_way_60 : decode cX5_way 60 = .ok (.athrow, 1) := by decide +kernel
theorem dX5_way_61 : decode cX5_way 61 = .ok (.iload_n 2, 1) := by decide +kernel
theorem dX5_way_62 : decode cX5_way 62 = .ok (.aload_n 0, 1) := by decide +kernel
theorem dX5_way_63 : decode cX5_way 63 = .ok (.getfield 19, 3) := by decide +kernel
theorem dX5_way_66 : decode cX5_way 66 = .ok (.iload_n 1, 1) := by decide +kernel
theorem dX5_way_67 : decode cX5_way 67 = .ok (.invokevirtual 154, 3) := by decide +kernel
theorem dX5_way_70 : decode cX5_way 70 = .ok (.if_icmp .lt 5, 3) := by decide +kernel
theorem dX5_way_73 : decode cX5_way 73 = .ok (.iconst (-1), 1) := by decide +kernel
theorem dX5_way_74 : decode cX5_way 74 = .ok (.ireturn, 1) := by decide +kernel
theorem dX5_way_75 : decode cX5_way 75 = .ok (.aload_n 0, 1) := by decide +kernel
theorem dX5_way_76 : decode cX5_way 76 = .ok (.getfield 19, 3) := by decide +kernel
theorem dX5_way_79 : decode cX5_way 79 = .ok (.iload_n 1, 1) := by decide +kernel
theorem dX5_way_80 : decode cX5_way 80 = .ok (.iload_n 2, 1) := by decide +kernel
theorem dX5_way_81 : decode cX5_way 81 = .ok (.iconst 1, 1) := by decide +kernel
theorem dX5_way_82 : decode cX5_way 82 = .ok (.iadd, 1) := by decide +kernel
theorem dX5_way_83 : decode cX5_way 83 = .ok (.invokevirtual 228, 3) := by decide +kernel
theorem dX5_way_86 : decode cX5_way 86 = .ok (.istore 4, 2) := by decide +kernel
theorem dX5_way_88 : decode cX5_way 88 = .ok (.iload_n 3, 1) := by decide +kernel
theorem dX5_way_89 : decode cX5_way 89 = .ok (.ifCond .ne 15, 3) := by decide +kernel
theorem dX5_way_92 : decode cX5_way 92 = .ok (.aload_n 0, 1) := by decide +kernel
theorem dX5_way_93 : decode cX5_way 93 = .ok (.getfield 19, 3) := by decide +kernel
theorem dX5_way_96 : decode cX5_way 96 = .ok (.iload 4, 2) := by decide +kernel
theorem dX5_way_98 : decode cX5_way 98 = .ok (.invokevirtual 231, 3) := by decide +kernel
theorem dX5_way_101 : decode cX5_way 101 = .ok (.goto 12, 3) := by decide +kernel
theorem dX5_way_104 : decode cX5_way 104 = .ok (.aload_n 0, 1) := by decide +kernel
theorem dX5_way_105 : decode cX5_way 105 = .ok (.getfield 19, 3) := by decide +kernel
theorem dX5_way_108 : decode cX5_way 108 = .ok (.iload 4, 2) := by decide +kernel
theorem dX5_way_110 : decode cX5_way 110 = .ok (.invokevirtual 234, 3) := by decide +kernel
theorem dX5_way_113 : decode cX5_way 113 = .ok (.ireturn, 1) := by decide +kernel
theorem dX5_isBetween_0 : decode cX5_isBetween 0 = .ok (.iload_n 0, 1) := by decide +kernel
theorem dX5_isBetween_1 : decode cX5_isBetween 1 = .ok (.iload_n 1, 1) := by decide +kernel
theorem dX5_isBetween_2 : decode cX5_isBetween 2 = .ok (.if_icmp .lt 12, 3) := by decide +kernel
theorem dX5_isBetween_5 : decode cX5_isBetween 5 = .ok (.iload_n 0, 1) := by decide +kernel
theorem dX5_isBetween_6 : decode cX5_isBetween 6 = .ok (.iload_n 2, 1) := by decide +kernel
theorem dX5_isBetween_7 : decode cX5_isBetween 7 = .ok (.if_icmp .gt 7, 3) := by decide +kernel
theorem dX5_isBetween_10 : decode cX5_isBetween 10 = .ok (.iconst 1, 1) := by decide +kernel
theorem dX5_isBetween_11 : decode cX5_isBetween 11 = .ok (.goto 4, 3) := by decide +kernel
theorem dX5_isBetween_14 : decode cX5_isBetween 14 = .ok (.iconst 0, 1) := by decide +kernel
theorem dX5_isBetween_15 : decode cX5_isBetween 15 = .ok (.ireturn, 1) := by decide +kernel
theorem dX5_canBeFact_0 : decode cX5_canBeFact 0 = .ok (.iload_n 1, 1) := by decide +kernel
theorem dX5_canBeFact_1 : decode cX5_canBeFact 1 = .ok (.tableswitch 125 0 5 #[39, 49, 49, 76, 97, 97], 39) := by decide +kernel
theorem dX5_canBeFact_40 : decode cX5_canBeFact 40 = .ok (.aload_n 0, 1) := by decide +kernel
theorem dX5_canBeFact_41 : decode cX5_canBeFact 41 = .ok (.getfield 12, 3) := by decide +kernel
theorem dX5_canBeFact_44 : decode cX5_canBeFact 44 = .ok (.iload_n 2, 1) := by decide +kernel
theorem dX5_canBeFact_45 : decode cX5_canBeFact 45 = .ok (.iload_n 3, 1) := by decide +kernel
theorem dX5_canBeFact_46 : decode cX5_canBeFact 46 = .ok (.invokevirtual 86, 3) := by decide +kernel
theorem dX5_canBeFact_49 : decode cX5_canBeFact 49 = .ok (.ireturn, 1) := by decide +kernel
theorem dX5_canBeFact_50 : decode cX5_canBeFact 50 = .ok (.aload_n 0, 1) := by decide +kernel
theorem dX5_canBeFact_51 : decode cX5_canBeFact 51 = .ok (.getfield 12, 3) := by decide +kernel
theorem dX5_canBeFact_54 : decode cX5_canBeFact 54 = .ok (.iload_n 2, 1) := by decide +kernel
theorem dX5_canBeFact_55 : decode cX5_canBeFact 55 = .ok (.invokevirtual 111, 3) := by decide +kernel
theorem dX5_canBeFact_58 : decode cX5_canBeFact 58 = .ok (.ifCond .eq 17, 3) := by decide +kernel
theorem dX5_canBeFact_61 : decode cX5_canBeFact 61 = .ok (.iload_n 3, 1) := by decide +kernel
theorem dX5_canBeFact_62 : decode cX5_canBeFact 62 = .ok (.iconst 0, 1) := by decide +kernel
theorem dX5_canBeFact_63 : decode cX5_canBeFact 63 = .ok (.bipush 9, 2) := by decide +kernel
theorem dX5_canBeFact_65 : decode cX5_canBeFact 65 = .ok (.invokestatic 37, 3) := by decide +kernel
theorem dX5_canBeFact_68 : decode cX5_canBeFact 68 = .ok (.ifCond .eq 7, 3) := by decide +kernel
theorem dX5_canBeFact_71 : decode cX5_canBeFact 71 = .ok (.iconst 1, 1) := by decide +kernel
theorem dX5_canBeFact_72 : decode cX5_canBeFact 72 = .ok (.goto 4, 3) := by decide +kernel
theorem dX5_canBeFact_75 : decode cX5_canBeFact 75 = .ok (.iconst 0, 1) := by decide +kernel
theorem dX5_canBeFact_76 : decode cX5_canBeFact 76 = .ok (.ireturn, 1) := by decide +kernel
theorem dX5_canBeFact_77 : decode cX5_canBeFact 77 = .ok (.aload_n 0, 1) := by decide +kernel
theorem dX5_canBeFact_78 : decode cX5_canBeFact 78 = .ok (.getfield 26, 3) := by decide +kernel
theorem dX5_canBeFact_81 : decode cX5_canBeFact 81 = .ok (.iload_n 2, 1) := by decide +kernel
theorem dX5_canBeFact_82 : decode cX5_canBeFact 82 = .ok (.invokevirtual 191, 3) := by decide +kernel
theorem dX5_canBeFact_85 : decode cX5_canBeFact 85 = .ok (.ifCond .eq 11, 3) := by decide +kernel
theorem dX5_canBeFact_88 : decode cX5_canBeFact 88 = .ok (.iload_n 3, 1) := by decide +kernel
theorem dX5_canBeFact_89 : decode cX5_canBeFact 89 = .ok (.ifCond .ne 7, 3) := by decide +kernel
theorem dX5_canBeFact_92 : decode cX5_canBeFact 92 = .ok (.iconst 1, 1) := by decide +kernel
theorem dX5_canBeFact_93 : decode cX5_canBeFact 93 = .ok (.goto 4, 3) := by decide +kernel
theorem dX5_canBeFact_96 : decode cX5_canBeFact 96 = .ok (.iconst 0, 1) := by decide +kernel
theorem dX5_canBeFact_97 : decode cX5_canBeFact 97 = .ok (.ireturn, 1) := by decide +kernel
theorem dX5_canBeFact_98 : decode cX5_canBeFact 98 = .ok (.aload_n 0, 1) := by decide +kernel
theorem dX5_canBeFact_99 : decode cX5_canBeFact 99 = .ok (.getfield 26, 3) := by decide +kernel
theorem dX5_canBeFact_102 : decode cX5_canBeFact 102 = .ok (.iload_n 2, 1) := by decide +kernel
theorem dX5_canBeFact_103 : decode cX5_canBeFact 103 = .ok (.invokevirtual 191, 3) := by decide +kernel
theorem dX5_canBeFact_106 : decode cX5_canBeFact 106 = .ok (.ifCond .eq 18, 3) := by decide +kernel
theorem dX5_canBeFact_109 : decode cX5_canBeFact 109 = .ok (.aload_n 0, 1) := by decide +kernel
theorem dX5_canBeFact_110 : decode cX5_canBeFact 110 = .ok (.getfield 26, 3) := by decide +kernel
theorem dX5_canBeFact_113 : decode cX5_canBeFact 113 = .ok (.iload_n 3, 1) := by decide +kernel
theorem dX5_canBeFact_114 : decode cX5_canBeFact 114 = .ok (.invokevirtual 191, 3) := by decide +kernel
theorem dX5_canBeFact_117 : decode cX5_canBeFact 117 = .ok (.ifCond .eq 7, 3) := by decide +kernel
theorem dX5_canBeFact_120 : decode cX5_canBeFact 120 = .ok (.iconst 1, 1) := by decide +kernel
theorem dX5_canBeFact_121 : decode cX5_canBeFact 121 = .ok (.goto 4, 3) := by decide +kernel
theorem dX5_canBeFact_124 : decode cX5_canBeFact 124 = .ok (.iconst 0, 1) := by decide +kernel
theorem dX5_canBeFact_125 : decode cX5_canBeFact 125 = .ok (.ireturn, 1) := by decide +kernel
theorem dX5_canBeFact_126 : decode cX5_canBeFact 126 = .ok (.iconst 0, 1) := by decide +kernel
theorem dX5_canBeFact_127 : decode cX5_canBeFact 127 = .ok (.ireturn, 1) := by decide +kernel
theorem dX5_locationIn_0 : decode cX5_locationIn 0 = .ok (.iload_n 0, 1) := by decide +kernel
theorem dX5_locationIn_1 : decode cX5_locationIn 1 = .ok (.iconst 3, 1) := by decide +kernel
theorem dX5_locationIn_2 : decode cX5_locationIn 2 = .ok (.iload_n 1, 1) := by decide +kernel
theorem dX5_locationIn_3 : decode cX5_locationIn 3 = .ok (.imul, 1) := by decide +kernel
theorem dX5_locationIn_4 : decode cX5_locationIn 4 = .ok (.iushr, 1) := by decide +kernel
theorem dX5_locationIn_5 : decode cX5_locationIn 5 = .ok (.bipush 7, 2) := by decide +kernel
theorem dX5_locationIn_7 : decode cX5_locationIn 7 = .ok (.iand, 1) := by decide +kernel
theorem dX5_locationIn_8 : decode cX5_locationIn 8 = .ok (.ireturn, 1) := by decide +kernel
theorem dX5_withLocation_0 : decode cX5_withLocation 0 = .ok (.iconst 3, 1) := by decide +kernel
theorem dX5_withLocation_1 : decode cX5_withLocation 1 = .ok (.iload_n 1, 1) := by decide +kernel
theorem dX5_withLocation_2 : decode cX5_withLocation 2 = .ok (.imul, 1) := by decide +kernel
theorem dX5_withLocation_3 : decode cX5_withLocation 3 = .ok (.istore_n 3, 1) := by decide +kernel
theorem dX5_withLocation_4 : decode cX5_withLocation 4 = .ok (.iload_n 0, 1) := by decide +kernel
theorem dX5_withLocation_5 : decode cX5_withLocation 5 = .ok (.bipush 7, 2) := by decide +kernel
theorem dX5_withLocation_7 : decode cX5_withLocation 7 = .ok (.iload_n 3, 1) := by decide +kernel
theorem dX5_withLocation_8 : decode cX5_withLocation 8 = .ok (.ishl, 1) := by decide +kernel
theorem dX5_withLocation_9 : decode cX5_withLocation 9 = .ok (.iconst (-1), 1) := by decide +kernel
theorem dX5_withLocation_10 : decode cX5_withLocation 10 = .ok (.ixor, 1) := by decide +kernel
theorem dX5_withLocation_11 : decode cX5_withLocation 11 = .ok (.iand, 1) := by decide +kernel
theorem dX5_withLocation_12 : decode cX5_withLocation 12 = .ok (.iload_n 2, 1) := by decide +kernel
theorem dX5_withLocation_13 : decode cX5_withLocation 13 = .ok (.iload_n 3, 1) := by decide +kernel
theorem dX5_withLocation_14 : decode cX5_withLocation 14 = .ok (.ishl, 1) := by decide +kernel
theorem dX5_withLocation_15 : decode cX5_withLocation 15 = .ok (.ior, 1) := by decide +kernel
theorem dX5_withLocation_16 : decode cX5_withLocation 16 = .ok (.ireturn, 1) := by decide +kernel
theorem dX5_valueIn_0 : decode cX5_valueIn 0 = .ok (.iload_n 0, 1) := by decide +kernel
theorem dX5_valueIn_1 : decode cX5_valueIn 1 = .ok (.bipush 15, 2) := by decide +kernel
theorem dX5_valueIn_3 : decode cX5_valueIn 3 = .ok (.iconst 4, 1) := by decide +kernel
theorem dX5_valueIn_4 : decode cX5_valueIn 4 = .ok (.iload_n 1, 1) := by decide +kernel
theorem dX5_valueIn_5 : decode cX5_valueIn 5 = .ok (.imul, 1) := by decide +kernel
theorem dX5_valueIn_6 : decode cX5_valueIn 6 = .ok (.iadd, 1) := by decide +kernel
theorem dX5_valueIn_7 : decode cX5_valueIn 7 = .ok (.iushr, 1) := by decide +kernel
theorem dX5_valueIn_8 : decode cX5_valueIn 8 = .ok (.bipush 15, 2) := by decide +kernel
theorem dX5_valueIn_10 : decode cX5_valueIn 10 = .ok (.iand, 1) := by decide +kernel
theorem dX5_valueIn_11 : decode cX5_valueIn 11 = .ok (.ireturn, 1) := by decide +kernel
theorem dX5_withValue_0 : decode cX5_withValue 0 = .ok (.bipush 15, 2) := by decide +kernel
theorem dX5_withValue_2 : decode cX5_withValue 2 = .ok (.iconst 4, 1) := by decide +kernel
theorem dX5_withValue_3 : decode cX5_withValue 3 = .ok (.iload_n 1, 1) := by decide +kernel
theorem dX5_withValue_4 : decode cX5_withValue 4 = .ok (.imul, 1) := by decide +kernel
theorem dX5_withValue_5 : decode cX5_withValue 5 = .ok (.iadd, 1) := by decide +kernel
theorem dX5_withValue_6 : decode cX5_withValue 6 = .ok (.istore_n 3, 1) := by decide +kernel
theorem dX5_withValue_7 : decode cX5_withValue 7 = .ok (.iload_n 0, 1) := by decide +kernel
theorem dX5_withValue_8 : decode cX5_withValue 8 = .ok (.bipush 15, 2) := by decide +kernel
theorem dX5_withValue_10 : decode cX5_withValue 10 = .ok (.iload_n 3, 1) := by decide +kernel
theorem dX5_withValue_11 : decode cX5_withValue 11 = .ok (.ishl, 1) := by decide +kernel
theorem dX5_withValue_12 : decode cX5_withValue 12 = .ok (.iconst (-1), 1) := by decide +kernel
theorem dX5_withValue_13 : decode cX5_withValue 13 = .ok (.ixor, 1) := by decide +kernel
theorem dX5_withValue_14 : decode cX5_withValue 14 = .ok (.iand, 1) := by decide +kernel
theorem dX5_withValue_15 : decode cX5_withValue 15 = .ok (.iload_n 2, 1) := by decide +kernel
theorem dX5_withValue_16 : decode cX5_withValue 16 = .ok (.iload_n 3, 1) := by decide +kernel
theorem dX5_withValue_17 : decode cX5_withValue 17 = .ok (.ishl, 1) := by decide +kernel
theorem dX5_withValue_18 : decode cX5_withValue 18 = .ok (.ior, 1) := by decide +kernel
theorem dX5_withValue_19 : decode cX5_withValue 19 = .ok (.ireturn, 1) := by decide +kernel
theorem dX6_init_0 : decode cX6_init 0 = .ok (.aload_n 0, 1) := by decide +kernel
theorem dX6_init_1 : decode cX6_init 1 = .ok (.invokespecial 1, 3) := by decide +kernel
theorem dX6_init_4 : decode cX6_init 4 = .ok (.aload_n 0, 1) := by decide +kernel
theorem dX6_init_5 : decode cX6_init 5 = .ok (.iconst 0, 1) := by decide +kernel
theorem dX6_init_6 : decode cX6_init 6 = .ok (.newarray .int, 2) := by decide +kernel
theorem dX6_init_8 : decode cX6_init 8 = .ok (.putfield 7, 3) := by decide +kernel
theorem dX6_init_11 : decode cX6_init 11 = .ok (.aload_n 0, 1) := by decide +kernel
theorem dX6_init_12 : decode cX6_init 12 = .ok (.iconst 0, 1) := by decide +kernel
theorem dX6_init_13 : decode cX6_init 13 = .ok (.newarray .int, 2) := by decide +kernel
theorem dX6_init_15 : decode cX6_init 15 = .ok (.putfield 13, 3) := by decide +kernel
theorem dX6_init_18 : decode cX6_init 18 = .ok (.aload_n 0, 1) := by decide +kernel
theorem dX6_init_19 : decode cX6_init 19 = .ok (.iconst 0, 1) := by decide +kernel
theorem dX6_init_20 : decode cX6_init 20 = .ok (.newarray .int, 2) := by decide +kernel
theorem dX6_init_22 : decode cX6_init 22 = .ok (.putfield 16, 3) := by decide +kernel
theorem dX6_init_25 : decode cX6_init 25 = .ok (.aload_n 0, 1) := by decide +kernel
theorem dX6_init_26 : decode cX6_init 26 = .ok (.iconst 5, 1) := by decide +kernel
theorem dX6_init_27 : decode cX6_init 27 = .ok (.iconst 0, 1) := by decide +kernel
theorem dX6_init_28 : decode cX6_init 28 = .ok (.multianewarray 19 2, 4) := by decide +kernel
theorem dX6_init_32 : decode cX6_init 32 = .ok (.putfield 21, 3) := by decide +kernel
theorem dX6_init_35 : decode cX6_init 35 = .ok (.aload_n 0, 1) := by decide +kernel
theorem dX6_init_36 : decode cX6_init 36 = .ok (.iconst 0, 1) := by decide +kernel
theorem dX6_init_37 : decode cX6_init 37 = .ok (.anewarray 24, 3) := by decide +kernel
theorem dX6_init_40 : decode cX6_init 40 = .ok (.putfield 25, 3) := by decide +kernel
theorem dX6_init_43 : decode cX6_init 43 = .ok (.aload_n 0, 1) := by decide +kernel
theorem dX6_init_44 : decode cX6_init 44 = .ok (.iconst 0, 1) := by decide +kernel
theorem dX6_init_45 : decode cX6_init 45 = .ok (.anewarray 29, 3) := by decide +kernel
theorem dX6_init_48 : decode cX6_init 48 = .ok (.putfield 30, 3) := by decide +kernel
theorem dX6_init_51 : decode cX6_init 51 = .ok (.aload_n 0, 1) := by decide +kernel
theorem dX6_init_52 : decode cX6_init 52 = .ok (.iconst 0, 1) := by decide +kernel
theorem dX6_init_53 : decode cX6_init 53 = .ok (.newarray .int, 2) := by decide +kernel
theorem dX6_init_55 : decode cX6_init 55 = .ok (.putfield 33, 3) := by decide +kernel
theorem dX6_init_58 : decode cX6_init 58 = .ok (.aload_n 0, 1) := by decide +kernel
theorem dX6_init_59 : decode cX6_init 59 = .ok (.iconst 0, 1) := by decide +kernel
theorem dX6_init_60 : decode cX6_init 60 = .ok (.newarray .int, 2) := by decide +kernel
theorem dX6_init_62 : decode cX6_init 62 = .ok (.putfield 36, 3) := by decide +kernel
theorem dX6_init_65 : decode cX6_init 65 = .ok (.return_, 1) := by decide +kernel
theorem dX6_more_0 : decode cX6_more 0 = .ok (.aload_n 0, 1) := by decide +kernel
theorem dX6_more_1 : decode cX6_more 1 = .ok (.arraylength, 1) := by decide +kernel
theorem dX6_more_2 : decode cX6_more 2 = .ok (.iconst 1, 1) := by decide +kernel
theorem dX6_more_3 : decode cX6_more 3 = .ok (.iadd, 1) := by decide +kernel
theorem dX6_more_4 : decode cX6_more 4 = .ok (.newarray .int, 2) := by decide +kernel
theorem dX6_more_6 : decode cX6_more 6 = .ok (.astore_n 2, 1) := by decide +kernel
theorem dX6_more_7 : decode cX6_more 7 = .ok (.iconst 0, 1) := by decide +kernel
theorem dX6_more_8 : decode cX6_more 8 = .ok (.istore_n 3, 1) := by decide +kernel
theorem dX6_more_9 : decode cX6_more 9 = .ok (.iload_n 3, 1) := by decide +kernel
theorem dX6_more_10 : decode cX6_more 10 = .ok (.aload_n 0, 1) := by decide +kernel
theorem dX6_more_11 : decode cX6_more 11 = .ok (.arraylength, 1) := by decide +kernel
theorem dX6_more_12 : decode cX6_more 12 = .ok (.if_icmp .ge 15, 3) := by decide +kernel
theorem dX6_more_15 : decode cX6_more 15 = .ok (.aload_n 2, 1) := by decide +kernel
theorem dX6_more_16 : decode cX6_more 16 = .ok (.iload_n 3, 1) := by decide +kernel
theorem dX6_more_17 : decode cX6_more 17 = .ok (.aload_n 0, 1) := by decide +kernel
theorem dX6_more_18 : decode cX6_more 18 = .ok (.iload_n 3, 1) := by decide +kernel
theorem dX6_more_19 : decode cX6_more 19 = .ok (.iaload, 1) := by decide +kernel
theorem dX6_more_20 : decode cX6_more 20 = .ok (.iastore, 1) := by decide +kernel
theorem dX6_more_21 : decode cX6_more 21 = .ok (.iinc 3 1, 3) := by decide +kernel
theorem dX6_more_24 : decode cX6_more 24 = .ok (.goto (-15), 3) := by decide +kernel
theorem dX6_more_27 : decode cX6_more 27 = .ok (.aload_n 2, 1) := by decide +kernel
theorem dX6_more_28 : decode cX6_more 28 = .ok (.aload_n 0, 1) := by decide +kernel
theorem dX6_more_29 : decode cX6_more 29 = .ok (.arraylength, 1) := by decide +kernel
theorem dX6_more_30 : decode cX6_more 30 = .ok (.iload_n 1, 1) := by decide +kernel
theorem dX6_more_31 : decode cX6_more 31 = .ok (.iastore, 1) := by decide +kernel
theorem dX6_more_32 : decode cX6_more 32 = .ok (.aload_n 2, 1) := by decide +kernel
theorem dX6_more_33 : decode cX6_more 33 = .ok (.areturn, 1) := by decide +kernel
theorem dX6_more__0 : decode cX6_more_ 0 = .ok (.aload_n 0, 1) := by decide +kernel
theorem dX6_more__1 : decode cX6_more_ 1 = .ok (.arraylength, 1) := by decide +kernel
theorem dX6_more__2 : decode cX6_more_ 2 = .ok (.iconst 1, 1) := by decide +kernel
theorem dX6_more__3 : decode cX6_more_ 3 = .ok (.iadd, 1) := by decide +kernel
theorem dX6_more__4 : decode cX6_more_ 4 = .ok (.anewarray 24, 3) := by decide +kernel
theorem dX6_more__7 : decode cX6_more_ 7 = .ok (.astore_n 2, 1) := by decide +kernel
theorem dX6_more__8 : decode cX6_more_ 8 = .ok (.iconst 0, 1) := by decide +kernel
theorem dX6_more__9 : decode cX6_more_ 9 = .ok (.istore_n 3, 1) := by decide +kernel
theorem dX6_more__10 : decode cX6_more_ 10 = .ok (.iload_n 3, 1) := by decide +kernel
theorem dX6_more__11 : decode cX6_more_ 11 = .ok (.aload_n 0, 1) := by decide +kernel
theorem dX6_more__12 : decode cX6_more_ 12 = .ok (.arraylength, 1) := by decide +kernel
theorem dX6_more__13 : decode cX6_more_ 13 = .ok (.if_icmp .ge 15, 3) := by decide +kernel
theorem dX6_more__16 : decode cX6_more_ 16 = .ok (.aload_n 2, 1) := by decide +kernel
theorem dX6_more__17 : decode cX6_more_ 17 = .ok (.iload_n 3, 1) := by decide +kernel
theorem dX6_more__18 : decode cX6_more_ 18 = .ok (.aload_n 0, 1) := by decide +kernel
theorem dX6_more__19 : decode cX6_more_ 19 = .ok (.iload_n 3, 1) := by decide +kernel
theorem dX6_more__20 : decode cX6_more_ 20 = .ok (.aaload, 1) := by decide +kernel
theorem dX6_more__21 : decode cX6_more_ 21 = .ok (.aastore, 1) := by decide +kernel
theorem dX6_more__22 : decode cX6_more_ 22 = .ok (.iinc 3 1, 3) := by decide +kernel
theorem dX6_more__25 : decode cX6_more_ 25 = .ok (.goto (-15), 3) := by decide +kernel
theorem dX6_more__28 : decode cX6_more_ 28 = .ok (.aload_n 2, 1) := by decide +kernel
theorem dX6_more__29 : decode cX6_more_ 29 = .ok (.aload_n 0, 1) := by decide +kernel
theorem dX6_more__30 : decode cX6_more_ 30 = .ok (.arraylength, 1) := by decide +kernel
theorem dX6_more__31 : decode cX6_more_ 31 = .ok (.aload_n 1, 1) := by decide +kernel
theorem dX6_more__32 : decode cX6_more_ 32 = .ok (.aastore, 1) := by decide +kernel
theorem dX6_more__33 : decode cX6_more_ 33 = .ok (.aload_n 2, 1) := by decide +kernel
theorem dX6_more__34 : decode cX6_more_ 34 = .ok (.areturn, 1) := by decide +kernel
theorem dX6_done_0 : decode cX6_done 0 = .ok (.aload_n 1, 1) := by decide +kernel
theorem dX6_done_1 : decode cX6_done 1 = .ok (.invokevirtual 39, 3) := by decide +kernel
theorem dX6_done_4 : decode cX6_done 4 = .ok (.checkcast 24, 3) := by decide +kernel
theorem dX6_done_7 : decode cX6_done 7 = .ok (.astore 4, 2) := by decide +kernel
theorem dX6_done_9 : decode cX6_done 9 = .ok (.aload 4, 2) := by decide +kernel
theorem dX6_done_11 : decode cX6_done 11 = .ok (.iload_n 2, 1) := by decide +kernel
theorem dX6_done_12 : decode cX6_done 12 = .ok (.aload_n 3, 1) := by decide +kernel
theorem dX6_done_13 : decode cX6_done 13 = .ok (.iconst 1, 1) := by decide +kernel
theorem dX6_done_14 : decode cX6_done 14 = .ok (.iaload, 1) := by decide +kernel
theorem dX6_done_15 : decode cX6_done 15 = .ok (.iastore, 1) := by decide +kernel
theorem dX6_done_16 : decode cX6_done 16 = .ok (.aload_n 3, 1) := by decide +kernel
theorem dX6_done_17 : decode cX6_done 17 = .ok (.bipush 6, 2) := by decide +kernel
theorem dX6_done_19 : decode cX6_done 19 = .ok (.iaload, 1) := by decide +kernel
theorem dX6_done_20 : decode cX6_done 20 = .ok (.ifCond .ne 6, 3) := by decide +kernel
theorem dX6_done_23 : decode cX6_done 23 = .ok (.aload 4, 2) := by decide +kernel
theorem dX6_done_25 : decode cX6_done 25 = .ok (.areturn, 1) := by decide +kernel
theorem dX6_done_26 : decode cX6_done 26 = .ok (.aload_n 0, 1) := by decide +kernel
theorem dX6_done_27 : decode cX6_done 27 = .ok (.getfield 7, 3) := by decide +kernel
theorem dX6_done_30 : decode cX6_done 30 = .ok (.arraylength, 1) := by decide +kernel
theorem dX6_done_31 : decode cX6_done 31 = .ok (.aload_n 3, 1) := by decide +kernel
theorem dX6_done_32 : decode cX6_done 32 = .ok (.bipush 7, 2) := by decide +kernel
theorem dX6_done_34 : decode cX6_done 34 = .ok (.iaload, 1) := by decide +kernel
theorem dX6_done_35 : decode cX6_done 35 = .ok (.iadd, 1) := by decide +kernel
theorem dX6_done_36 : decode cX6_done 36 = .ok (.istore 5, 2) := by decide +kernel
theorem dX6_done_38 : decode cX6_done 38 = .ok (.aload 4, 2) := by decide +kernel
theorem dX6_done_40 : decode cX6_done 40 = .ok (.iload 5, 2) := by decide +kernel
theorem dX6_done_42 : decode cX6_done 42 = .ok (.aload_n 3, 1) := by decide +kernel
theorem dX6_done_43 : decode cX6_done 43 = .ok (.bipush 6, 2) := by decide +kernel
theorem dX6_done_45 : decode cX6_done 45 = .ok (.iaload, 1) := by decide +kernel
theorem dX6_done_46 : decode cX6_done 46 = .ok (.iconst 1, 1) := by decide +kernel
theorem dX6_done_47 : decode cX6_done 47 = .ok (.if_icmp .ne 10, 3) := by decide +kernel
theorem dX6_done_50 : decode cX6_done 50 = .ok (.aload_n 3, 1) := by decide +kernel
theorem dX6_done_51 : decode cX6_done 51 = .ok (.bipush 8, 2) := by decide +kernel
theorem dX6_done_53 : decode cX6_done 53 = .ok (.iaload, 1) := by decide +kernel
theorem dX6_done_54 : decode cX6_done 54 = .ok (.goto 13, 3) := by decide +kernel
theorem dX6_done_57 : decode cX6_done 57 = .ok (.aload 4, 2) := by decide +kernel
theorem dX6_done_59 : decode cX6_done 59 = .ok (.iload 5, 2) := by decide +kernel
theorem dX6_done_61 : decode cX6_done 61 = .ok (.iaload, 1) := by decide +kernel
theorem dX6_done_62 : decode cX6_done 62 = .ok (.aload_n 3, 1) := by decide +kernel
theorem dX6_done_63 : decode cX6_done 63 = .ok (.bipush 8, 2) := by decide +kernel
theorem dX6_done_65 : decode cX6_done 65 = .ok (.iaload, 1) := by decide +kernel
theorem dX6_done_66 : decode cX6_done 66 = .ok (.iadd, 1) := by decide +kernel
theorem dX6_done_67 : decode cX6_done 67 = .ok (.iastore, 1) := by decide +kernel
theorem dX6_done_68 : decode cX6_done 68 = .ok (.aload 4, 2) := by decide +kernel
theorem dX6_done_70 : decode cX6_done 70 = .ok (.iload 5, 2) := by decide +kernel
theorem dX6_done_72 : decode cX6_done 72 = .ok (.iaload, 1) := by decide +kernel
theorem dX6_done_73 : decode cX6_done 73 = .ok (.ifCond .lt 20, 3) := by decide +kernel
theorem dX6_done_76 : decode cX6_done 76 = .ok (.aload 4, 2) := by decide +kernel
theorem dX6_done_78 : decode cX6_done 78 = .ok (.iload 5, 2) := by decide +kernel
theorem dX6_done_80 : decode cX6_done 80 = .ok (.iaload, 1) := by decide +kernel
theorem dX6_done_81 : decode cX6_done 81 = .ok (.aload_n 0, 1) := by decide +kernel
theorem dX6_done_82 : decode cX6_done 82 = .ok (.getfield 13, 3) := by decide +kernel
theorem dX6_done_85 : decode cX6_done 85 = .ok (.aload_n 3, 1) := by decide +kernel
theorem dX6_done_86 : decode cX6_done 86 = .ok (.bipush 7, 2) := by decide +kernel
theorem dX6_done_88 : decode cX6_done 88 = .ok (.iaload, 1) := by decide +kernel
theorem dX6_done_89 : decode cX6_done 89 = .ok (.iaload, 1) := by decide +kernel
theorem dX6_done_90 : decode cX6_done 90 = .ok (.if_icmp .le 7, 3) := by decide +kernel
theorem dX6_done_93 : decode cX6_done 93 = .ok (.aconst_null, 1) := by decide +kernel
theorem dX6_done_94 : decode cX6_done 94 = .ok (.goto 5, 3) := by decide +kernel
theorem dX6_done_97 : decode cX6_done 97 = .ok (.aload 4, 2) := by decide +kernel
theorem dX6_done_99 : decode cX6_done 99 = .ok (.areturn, 1) := by decide +kernel
theorem dX6_isOpen_0 : decode cX6_isOpen 0 = .ok (.aload_n 1, 1) := by decide +kernel
theorem dX6_isOpen_1 : decode cX6_isOpen 1 = .ok (.iload_n 2, 1) := by decide +kernel
theorem dX6_isOpen_2 : decode cX6_isOpen 2 = .ok (.iaload, 1) := by decide +kernel
theorem dX6_isOpen_3 : decode cX6_isOpen 3 = .ok (.aload_n 3, 1) := by decide +kernel
theorem dX6_isOpen_4 : decode cX6_isOpen 4 = .ok (.iconst 0, 1) := by decide +kernel
theorem dX6_isOpen_5 : decode cX6_isOpen 5 = .ok (.iaload, 1) := by decide +kernel
theorem dX6_isOpen_6 : decode cX6_isOpen 6 = .ok (.if_icmp .ne 13, 3) := by decide +kernel
theorem dX6_isOpen_9 : decode cX6_isOpen 9 = .ok (.aload_n 0, 1) := by decide +kernel
theorem dX6_isOpen_10 : decode cX6_isOpen 10 = .ok (.aload_n 1, 1) := by decide +kernel
theorem dX6_isOpen_11 : decode cX6_isOpen 11 = .ok (.iload_n 2, 1) := by decide +kernel
theorem dX6_isOpen_12 : decode cX6_isOpen 12 = .ok (.aload_n 3, 1) := by decide +kernel
theorem dX6_isOpen_13 : decode cX6_isOpen 13 = .ok (.invokevirtual 43, 3) := by decide +kernel
theorem dX6_isOpen_16 : decode cX6_isOpen 16 = .ok (.ifnonnull 5, 3) := by decide +kernel
theorem dX6_isOpen_19 : decode cX6_isOpen 19 = .ok (.iconst 0, 1) := by decide +kernel
theorem dX6_isOpen_20 : decode cX6_isOpen 20 = .ok (.ireturn, 1) := by decide +kernel
theorem dX6_isOpen_21 : decode cX6_isOpen 21 = .ok (.aload_n 3, 1) := by decide +kernel
theorem dX6_isOpen_22 : decode cX6_isOpen 22 = .ok (.iconst 3, 1) := by decide +kernel
theorem dX6_isOpen_23 : decode cX6_isOpen 23 = .ok (.iaload, 1) := by decide +kernel
theorem dX6_isOpen_24 : decode cX6_isOpen 24 = .ok (.ifCond .ne 7, 3) := by decide +kernel
theorem dX6_isOpen_27 : decode cX6_isOpen 27 = .ok (.iconst 0, 1) := by decide +kernel
theorem dX6_isOpen_28 : decode cX6_isOpen 28 = .ok (.goto 14, 3) := by decide +kernel
theorem dX6_isOpen_31 : decode cX6_isOpen 31 = .ok (.aload_n 1, 1) := by decide +kernel
theorem dX6_isOpen_32 : decode cX6_isOpen 32 = .ok (.aload_n 0, 1) := by decide +kernel
theorem dX6_isOpen_33 : decode cX6_isOpen 33 = .ok (.getfield 7, 3) := by decide +kernel
theorem dX6_isOpen_36 : decode cX6_isOpen 36 = .ok (.arraylength, 1) := by decide +kernel
theorem dX6_isOpen_37 : decode cX6_isOpen 37 = .ok (.aload_n 3, 1) := by decide +kernel
theorem dX6_isOpen_38 : decode cX6_isOpen 38 = .ok (.iconst 4, 1) := by decide +kernel
theorem dX6_isOpen_39 : decode cX6_isOpen 39 = .ok (.iaload, 1) := by decide +kernel
theorem dX6_isOpen_40 : decode cX6_isOpen 40 = .ok (.iadd, 1) := by decide +kernel
theorem dX6_isOpen_41 : decode cX6_isOpen 41 = .ok (.iaload, 1) := by decide +kernel
theorem dX6_isOpen_42 : decode cX6_isOpen 42 = .ok (.istore 4, 2) := by decide +kernel
theorem dX6_isOpen_44 : decode cX6_isOpen 44 = .ok (.aload_n 3, 1) := by decide +kernel
theorem dX6_isOpen_45 : decode cX6_isOpen 45 = .ok (.iconst 3, 1) := by decide +kernel
theorem dX6_isOpen_46 : decode cX6_isOpen 46 = .ok (.iaload, 1) := by decide +kernel
theorem dX6_isOpen_47 : decode cX6_isOpen 47 = .ok (.ifCond .eq 63, 3) := by decide +kernel
theorem dX6_isOpen_50 : decode cX6_isOpen 50 = .ok (.aload_n 3, 1) := by decide +kernel
theorem dX6_isOpen_51 : decode cX6_isOpen 51 = .ok (.iconst 3, 1) := by decide +kernel
theorem dX6_isOpen_52 : decode cX6_isOpen 52 = .ok (.iaload, 1) := by decide +kernel
theorem dX6_isOpen_53 : decode cX6_isOpen 53 = .ok (.iconst 1, 1) := by decide +kernel
theorem dX6_isOpen_54 : decode cX6_isOpen 54 = .ok (.if_icmp .ne 11, 3) := by decide +kernel
theorem dX6_isOpen_57 : decode cX6_isOpen 57 = .ok (.iload 4, 2) := by decide +kernel
theorem dX6_isOpen_59 : decode cX6_isOpen 59 = .ok (.aload_n 3, 1) := by decide +kernel
theorem dX6_isOpen_60 : decode cX6_isOpen 60 = .ok (.iconst 5, 1) := by decide +kernel
theorem dX6_isOpen_61 : decode cX6_isOpen 61 = .ok (.iaload, 1) := by decide +kernel
theorem dX6_isOpen_62 : decode cX6_isOpen 62 = .ok (.if_icmp .eq 48, 3) := by decide +kernel
theorem dX6_isOpen_65 : decode cX6_isOpen 65 = .ok (.aload_n 3, 1) := by decide +kernel
theorem dX6_isOpen_66 : decode cX6_isOpen 66 = .ok (.iconst 3, 1) := by decide +kernel
theorem dX6_isOpen_67 : decode cX6_isOpen 67 = .ok (.iaload, 1) := by decide +kernel
theorem dX6_isOpen_68 : decode cX6_isOpen 68 = .ok (.iconst 2, 1) := by decide +kernel
theorem dX6_isOpen_69 : decode cX6_isOpen 69 = .ok (.if_icmp .ne 11, 3) := by decide +kernel
theorem dX6_isOpen_72 : decode cX6_isOpen 72 = .ok (.iload 4, 2) := by decide +kernel
theorem dX6_isOpen_74 : decode cX6_isOpen 74 = .ok (.aload_n 3, 1) := by decide +kernel
theorem dX6_isOpen_75 : decode cX6_isOpen 75 = .ok (.iconst 5, 1) := by decide +kernel
theorem dX6_isOpen_76 : decode cX6_isOpen 76 = .ok (.iaload, 1) := by decide +kernel
theorem dX6_isOpen_77 : decode cX6_isOpen 77 = .ok (.if_icmp .ne 33, 3) := by decide +kernel
theorem dX6_isOpen_80 : decode cX6_isOpen 80 = .ok (.aload_n 3, 1) := by decide +kernel
theorem dX6_isOpen_81 : decode cX6_isOpen 81 = .ok (.iconst 3, 1) := by decide +kernel
theorem dX6_isOpen_82 : decode cX6_isOpen 82 = .ok (.iaload, 1) := by decide +kernel
theorem dX6_isOpen_83 : decode cX6_isOpen 83 = .ok (.iconst 3, 1) := by decide +kernel
theorem dX6_isOpen_84 : decode cX6_isOpen 84 = .ok (.if_icmp .ne 11, 3) := by decide +kernel
theorem dX6_isOpen_87 : decode cX6_isOpen 87 = .ok (.iload 4, 2) := by decide +kernel
theorem dX6_isOpen_89 : decode cX6_isOpen 89 = .ok (.aload_n 3, 1) := by decide +kernel
theorem dX6_isOpen_90 : decode cX6_isOpen 90 = .ok (.iconst 5, 1) := by decide +kernel
theorem dX6_isOpen_91 : decode cX6_isOpen 91 = .ok (.iaload, 1) := by decide +kernel
theorem dX6_isOpen_92 : decode cX6_isOpen 92 = .ok (.if_icmp .lt 18, 3) := by decide +kernel
theorem dX6_isOpen_95 : decode cX6_isOpen 95 = .ok (.aload_n 3, 1) := by decide +kernel
theorem dX6_isOpen_96 : decode cX6_isOpen 96 = .ok (.iconst 3, 1) := by decide +kernel
theorem dX6_isOpen_97 : decode cX6_isOpen 97 = .ok (.iaload, 1) := by decide +kernel
theorem dX6_isOpen_98 : decode cX6_isOpen 98 = .ok (.iconst 4, 1) := by decide +kernel
theorem dX6_isOpen_99 : decode cX6_isOpen 99 = .ok (.if_icmp .ne 15, 3) := by decide +kernel
theorem dX6_isOpen_102 : decode cX6_isOpen 102 = .ok (.iload 4, 2) := by decide +kernel
theorem dX6_isOpen_104 : decode cX6_isOpen 104 = .ok (.aload_n 3, 1) := by decide +kernel
theorem dX6_isOpen_105 : decode cX6_isOpen 105 = .ok (.iconst 5, 1) := by decide +kernel
theorem dX6_isOpen_106 : decode cX6_isOpen 106 = .ok (.iaload, 1) := by decide +kernel
theorem dX6_isOpen_107 : decode cX6_isOpen 107 = .ok (.if_icmp .le 7, 3) := by decide +kernel
theorem dX6_isOpen_110 : decode cX6_isOpen 110 = .ok (.iconst 1, 1) := by decide +kernel
theorem dX6_isOpen_111 : decode cX6_isOpen 111 = .ok (.goto 4, 3) := by decide +kernel
theorem dX6_isOpen_114 : decode cX6_isOpen 114 = .ok (.iconst 0, 1) := by decide +kernel
theorem dX6_isOpen_115 : decode cX6_isOpen 115 = .ok (.ireturn, 1) := by decide +kernel
theorem dX6_find_0 : decode cX6_find 0 = .ok (.iconst 0, 1) := by decide +kernel
theorem dX6_find_1 : decode cX6_find 1 = .ok (.istore_n 2, 1) := by decide +kernel
theorem dX6_find_2 : decode cX6_find 2 = .ok (.iload_n 2, 1) := by decide +kernel
theorem dX6_find_3 : decode cX6_find 3 = .ok (.aload_n 0, 1) := by decide +kernel
theorem dX6_find_4 : decode cX6_find 4 = .ok (.getfield 25, 3) := by decide +kernel
theorem dX6_find_7 : decode cX6_find 7 = .ok (.arraylength, 1) := by decide +kernel
theorem dX6_find_8 : decode cX6_find 8 = .ok (.if_icmp .ge 59, 3) := by decide +kernel
theorem dX6_find_11 : decode cX6_find 11 = .ok (.iconst 1, 1) := by decide +kernel
theorem dX6_find_12 : decode cX6_find 12 = .ok (.istore_n 3, 1) := by decide +kernel
theorem dX6_find_13 : decode cX6_find 13 = .ok (.iconst 0, 1) := by decide +kernel
theorem dX6_find_14 : decode cX6_find 14 = .ok (.istore 4, 2) := by decide +kernel
theorem dX6_find_16 : decode cX6_find 16 = .ok (.iload 4, 2) := by decide +kernel
theorem dX6_find_18 : decode cX6_find 18 = .ok (.aload_n 1, 1) := by decide +kernel
theorem dX6_find_19 : decode cX6_find 19 = .ok (.arraylength, 1) := by decide +kernel
theorem dX6_find_20 : decode cX6_find 20 = .ok (.if_icmp .ge 35, 3) := by decide +kernel
theorem dX6_find_23 : decode cX6_find 23 = .ok (.iload_n 3, 1) := by decide +kernel
theorem dX6_find_24 : decode cX6_find 24 = .ok (.ifCond .eq 23, 3) := by decide +kernel
theorem dX6_find_27 : decode cX6_find 27 = .ok (.aload_n 0, 1) := by decide +kernel
theorem dX6_find_28 : decode cX6_find 28 = .ok (.getfield 25, 3) := by decide +kernel
theorem dX6_find_31 : decode cX6_find 31 = .ok (.iload_n 2, 1) := by decide +kernel
theorem dX6_find_32 : decode cX6_find 32 = .ok (.aaload, 1) := by decide +kernel
theorem dX6_find_33 : decode cX6_find 33 = .ok (.iload 4, 2) := by decide +kernel
theorem dX6_find_35 : decode cX6_find 35 = .ok (.iaload, 1) := by decide +kernel
theorem dX6_find_36 : decode cX6_find 36 = .ok (.aload_n 1, 1) := by decide +kernel
theorem dX6_find_37 : decode cX6_find 37 = .ok (.iload 4, 2) := by decide +kernel
theorem dX6_find_39 : decode cX6_find 39 = .ok (.iaload, 1) := by decide +kernel
theorem dX6_find_40 : decode cX6_find 40 = .ok (.if_icmp .ne 7, 3) := by decide +kernel
theorem dX6_find_43 : decode cX6_find 43 = .ok (.iconst 1, 1) := by decide +kernel
theorem dX6_find_44 : decode cX6_find 44 = .ok (.goto 4, 3) := by decide +kernel
theorem dX6_find_47 : decode cX6_find 47 = .ok (.iconst 0, 1) := by decide +kernel
theorem dX6_find_48 : decode cX6_find 48 = .ok (.istore_n 3, 1) := by decide +kernel
theorem dX6_find_49 : decode cX6_find 49 = .ok (.iinc 4 1, 3) := by decide +kernel
theorem dX6_find_52 : decode cX6_find 52 = .ok (.goto (-36), 3) := by decide +kernel
theorem dX6_find_55 : decode cX6_find 55 = .ok (.iload_n 3, 1) := by decide +kernel
theorem dX6_find_56 : decode cX6_find 56 = .ok (.ifCond .eq 5, 3) := by decide +kernel
theorem dX6_find_59 : decode cX6_find 59 = .ok (.iload_n 2, 1) := by decide +kernel
theorem dX6_find_60 : decode cX6_find 60 = .ok (.ireturn, 1) := by decide +kernel
theorem dX6_find_61 : decode cX6_find 61 = .ok (.iinc 2 1, 3) := by decide +kernel
theorem dX6_find_64 : decode cX6_find 64 = .ok (.goto (-62), 3) := by decide +kernel
theorem dX6_find_67 : decode cX6_find 67 = .ok (.iconst (-1), 1) := by decide +kernel
theorem dX6_find_68 : decode cX6_find 68 = .ok (.ireturn, 1) := by decide +kernel
theorem dX6_number_0 : decode cX6_number 0 = .ok (.aload_n 0, 1) := by decide +kernel
theorem dX6_number_1 : decode cX6_number 1 = .ok (.aload_n 1, 1) := by decide +kernel
theorem dX6_number_2 : decode cX6_number 2 = .ok (.invokevirtual 47, 3) := by decide +kernel
theorem dX6_number_5 : decode cX6_number 5 = .ok (.istore 4, 2) := by decide +kernel
theorem dX6_number_7 : decode cX6_number 7 = .ok (.iload 4, 2) := by decide +kernel
theorem dX6_number_9 : decode cX6_number 9 = .ok (.ifCond .lt 6, 3) := by decide +kernel
theorem dX6_number_12 : decode cX6_number 12 = .ok (.iload 4, 2) := by decide +kernel
theorem dX6_number_14 : decode cX6_number 14 = .ok (.ireturn, 1) := by decide +kernel
theorem dX6_number_15 : decode cX6_number 15 = .ok (.aload_n 0, 1) := by decide +kernel
theorem dX6_number_16 : decode cX6_number 16 = .ok (.aload_n 0, 1) := by decide +kernel
theorem dX6_number_17 : decode cX6_number 17 = .ok (.getfield 25, 3) := by decide +kernel
theorem dX6_number_20 : decode cX6_number 20 = .ok (.aload_n 1, 1) := by decide +kernel
theorem dX6_number_21 : decode cX6_number 21 = .ok (.invokestatic 51, 3) := by decide +kernel
theorem dX6_number_24 : decode cX6_number 24 = .ok (.putfield 25, 3) := by decide +kernel
theorem dX6_number_27 : decode cX6_number 27 = .ok (.aload_n 0, 1) := by decide +kernel
theorem dX6_number_28 : decode cX6_number 28 = .ok (.aload_n 0, 1) := by decide +kernel
theorem dX6_number_29 : decode cX6_number 29 = .ok (.getfield 33, 3) := by decide +kernel
theorem dX6_number_32 : decode cX6_number 32 = .ok (.iload_n 2, 1) := by decide +kernel
theorem dX6_number_33 : decode cX6_number 33 = .ok (.invokestatic 55, 3) := by decide +kernel
theorem dX6_number_36 : decode cX6_number 36 = .ok (.putfield 33, 3) := by decide +kernel
theorem dX6_number_39 : decode cX6_number 39 = .ok (.aload_n 0, 1) := by decide +kernel
theorem dX6_number_40 : decode cX6_number 40 = .ok (.aload_n 0, 1) := by decide +kernel
theorem dX6_number_41 : decode cX6_number 41 = .ok (.getfield 36, 3) := by decide +kernel
theorem dX6_number_44 : decode cX6_number 44 = .ok (.iload_n 3, 1) := by decide +kernel
theorem dX6_number_45 : decode cX6_number 45 = .ok (.invokestatic 55, 3) := by decide +kernel
theorem dX6_number_48 : decode cX6_number 48 = .ok (.putfield 36, 3) := by decide +kernel
theorem dX6_number_51 : decode cX6_number 51 = .ok (.aload_n 0, 1) := by decide +kernel
theorem dX6_number_52 : decode cX6_number 52 = .ok (.getfield 25, 3) := by decide +kernel
theorem dX6_number_55 : decode cX6_number 55 = .ok (.arraylength, 1) := by decide +kernel
theorem dX6_number_56 : decode cX6_number 56 = .ok (.iconst 1, 1) := by decide +kernel
theorem dX6_number_57 : decode cX6_number 57 = .ok (.isub, 1) := by decide +kernel
theorem dX6_number_58 : decode cX6_number 58 = .ok (.ireturn, 1) := by decide +kernel
theorem dX6_explore_0 : decode cX6_explore 0 = .ok (.aload_n 0, 1) := by decide +kernel
theorem dX6_explore_1 : decode cX6_explore 1 = .ok (.getfield 7, 3) := by decide +kernel
theorem dX6_explore_4 : decode cX6_explore 4 = .ok (.arraylength, 1) := by decide +kernel
theorem dX6_explore_5 : decode cX6_explore 5 = .ok (.istore_n 2, 1) := by decide +kernel
theorem dX6_explore_6 : decode cX6_explore 6 = .ok (.iload_n 2, 1) := by decide +kernel
theorem dX6_explore_7 : decode cX6_explore 7 = .ok (.aload_n 0, 1) := by decide +kernel
theorem dX6_explore_8 : decode cX6_explore 8 = .ok (.getfield 13, 3) := by decide +kernel
theorem dX6_explore_11 : decode cX6_explore 11 = .ok (.arraylength, 1) := by decide +kernel
theorem dX6_explore_12 : decode cX6_explore 12 = .ok (.iadd, 1) := by decide +kernel
theorem dX6_explore_13 : decode cX6_explore 13 = .ok (.newarray .int, 2) := by decide +kernel
theorem dX6_explore_15 : decode cX6_explore 15 = .ok (.astore_n 3, 1) := by decide +kernel
theorem dX6_explore_16 : decode cX6_explore 16 = .ok (.iconst 0, 1) := by decide +kernel
theorem dX6_explore_17 : decode cX6_explore 17 = .ok (.istore 4, 2) := by decide +kernel
theorem dX6_explore_19 : decode cX6_explore 19 = .ok (.iload 4, 2) := by decide +kernel
theorem dX6_explore_21 : decode cX6_explore 21 = .ok (.aload_n 0, 1) := by decide +kernel
theorem dX6_explore_22 : decode cX6_explore 22 = .ok (.getfield 13, 3) := by decide +kernel
theorem dX6_explore_25 : decode cX6_explore 25 = .ok (.arraylength, 1) := by decide +kernel
theorem dX6_explore_26 : decode cX6_explore 26 = .ok (.if_icmp .ge 22, 3) := by decide +kernel
theorem dX6_explore_29 : decode cX6_explore 29 = .ok (.aload_n 3, 1) := by decide +kernel
theorem dX6_explore_30 : decode cX6_explore 30 = .ok (.iload_n 2, 1) := by decide +kernel
theorem dX6_explore_31 : decode cX6_explore 31 = .ok (.iload 4, 2) := by decide +kernel
theorem dX6_explore_33 : decode cX6_explore 33 = .ok (.iadd, 1) := by decide +kernel
theorem dX6_explore_34 : decode cX6_explore 34 = .ok (.aload_n 0, 1) := by decide +kernel
theorem dX6_explore_35 : decode cX6_explore 35 = .ok (.getfield 16, 3) := by decide +kernel
theorem dX6_explore_38 : decode cX6_explore 38 = .ok (.iload 4, 2) := by decide +kernel
theorem dX6_explore_40 : decode cX6_explore 40 = .ok (.iaload, 1) := by decide +kernel
theorem dX6_explore_41 : decode cX6_explore 41 = .ok (.iastore, 1) := by decide +kernel
theorem dX6_explore_42 : decode cX6_explore 42 = .ok (.iinc 4 1, 3) := by decide +kernel
theorem dX6_explore_45 : decode cX6_explore 45 = .ok (.goto (-26), 3) := by decide +kernel
theorem dX6_explore_48 : decode cX6_explore 48 = .ok (.aload_n 0, 1) := by decide +kernel
theorem dX6_explore_49 : decode cX6_explore 49 = .ok (.aload_n 3, 1) := by decide +kernel
theorem dX6_explore_50 : decode cX6_explore 50 = .ok (.iconst (-1), 1) := by decide +kernel
theorem dX6_explore_51 : decode cX6_explore 51 = .ok (.iconst (-1), 1) := by decide +kernel
theorem dX6_explore_52 : decode cX6_explore 52 = .ok (.invokevirtual 58, 3) := by decide +kernel
theorem dX6_explore_55 : decode cX6_explore 55 = .ok (.pop, 1) := by decide +kernel
theorem dX6_explore_56 : decode cX6_explore 56 = .ok (.iconst 0, 1) := by decide +kernel
theorem dX6_explore_57 : decode cX6_explore 57 = .ok (.istore 4, 2) := by decide +kernel
theorem dX6_explore_59 : decode cX6_explore 59 = .ok (.iload 4, 2) := by decide +kernel
theorem dX6_explore_61 : decode cX6_explore 61 = .ok (.aload_n 0, 1) := by decide +kernel
theorem dX6_explore_62 : decode cX6_explore 62 = .ok (.getfield 25, 3) := by decide +kernel
theorem dX6_explore_65 : decode cX6_explore 65 = .ok (.arraylength, 1) := by decide +kernel
theorem dX6_explore_66 : decode cX6_explore 66 = .ok (.if_icmp .ge 377, 3) := by decide +kernel
theorem dX6_explore_69 : decode cX6_explore 69 = .ok (.iconst 0, 1) := by decide +kernel
theorem dX6_explore_70 : decode cX6_explore 70 = .ok (.anewarray 24, 3) := by decide +kernel
theorem dX6_explore_73 : decode cX6_explore 73 = .ok (.astore 5, 2) := by decide +kernel
theorem dX6_explore_75 : decode cX6_explore 75 = .ok (.iconst 0, 1) := by decide +kernel
theorem dX6_explore_76 : decode cX6_explore 76 = .ok (.istore 6, 2) := by decide +kernel
theorem dX6_explore_78 : decode cX6_explore 78 = .ok (.iload 6, 2) := by decide +kernel
theorem dX6_explore_80 : decode cX6_explore 80 = .ok (.iload_n 2, 1) := by decide +kernel
theorem dX6_explore_81 : decode cX6_explore 81 = .ok (.if_icmp .ge 297, 3) := by decide +kernel
theorem dX6_explore_84 : decode cX6_explore 84 = .ok (.iconst 0, 1) := by decide +kernel
theorem dX6_explore_85 : decode cX6_explore 85 = .ok (.istore 7, 2) := by decide +kernel
theorem dX6_explore_87 : decode cX6_explore 87 = .ok (.iload 7, 2) := by decide +kernel
theorem dX6_explore_89 : decode cX6_explore 89 = .ok (.aload_n 0, 1) := by decide +kernel
theorem dX6_explore_90 : decode cX6_explore 90 = .ok (.getfield 21, 3) := by decide +kernel
theorem dX6_explore_93 : decode cX6_explore 93 = .ok (.iload 6, 2) := by decide +kernel
theorem dX6_explore_95 : decode cX6_explore 95 = .ok (.aaload, 1) := by decide +kernel
theorem dX6_explore_96 : decode cX6_explore 96 = .ok (.arraylength, 1) := by decide +kernel
theorem dX6_explore_97 : decode cX6_explore 97 = .ok (.if_icmp .ge 275, 3) := by decide +kernel
theorem dX6_explore_100 : decode cX6_explore 100 = .ok (.aload_n 0, 1) := by decide +kernel
theorem dX6_explore_101 : decode cX6_explore 101 = .ok (.getfield 21, 3) := by decide +kernel
theorem dX6_explore_104 : decode cX6_explore 104 = .ok (.iload 6, 2) := by decide +kernel
theorem dX6_explore_106 : decode cX6_explore 106 = .ok (.aaload, 1) := by decide +kernel
theorem dX6_explore_107 : decode cX6_explore 107 = .ok (.iload 7, 2) := by decide +kernel
theorem dX6_explore_109 : decode cX6_explore 109 = .ok (.aaload, 1) := by decide +kernel
theorem dX6_explore_110 : decode cX6_explore 110 = .ok (.astore 8, 2) := by decide +kernel
theorem dX6_explore_112 : decode cX6_explore 112 = .ok (.aload_n 0, 1) := by decide +kernel
theorem dX6_explore_113 : decode cX6_explore 113 = .ok (.aload_n 0, 1) := by decide +kernel
theorem dX6_explore_114 : decode cX6_explore 114 = .ok (.getfield 25, 3) := by decide +kernel
theorem dX6_explore_117 : decode cX6_explore 117 = .ok (.iload 4, 2) := by decide +kernel
theorem dX6_explore_119 : decode cX6_explore 119 = .ok (.aaload, 1) := by decide +kernel
theorem dX6_explore_120 : decode cX6_explore 120 = .ok (.iload 6, 2) := by decide +kernel
theorem dX6_explore_122 : decode cX6_explore 122 = .ok (.aload 8, 2) := by decide +kernel
theorem dX6_explore_124 : decode cX6_explore 124 = .ok (.invokevirtual 62, 3) := by decide +kernel
theorem dX6_explore_127 : decode cX6_explore 127 = .ok (.ifCond .ne 6, 3) := by decide +kernel
theorem dX6_explore_130 : decode cX6_explore 130 = .ok (.goto 236, 3) := by decide +kernel
theorem dX6_explore_133 : decode cX6_explore 133 = .ok (.aload_n 0, 1) := by decide +kernel
theorem dX6_explore_134 : decode cX6_explore 134 = .ok (.aload_n 0, 1) := by decide +kernel
theorem dX6_explore_135 : decode cX6_explore 135 = .ok (.getfield 25, 3) := by decide +kernel
theorem dX6_explore_138 : decode cX6_explore 138 = .ok (.iload 4, 2) := by decide +kernel
theorem dX6_explore_140 : decode cX6_explore 140 = .ok (.aaload, 1) := by decide +kernel
theorem dX6_explore_141 : decode cX6_explore 141 = .ok (.iload 6, 2) := by decide +kernel
theorem dX6_explore_143 : decode cX6_explore 143 = .ok (.aload 8, 2) := by decide +kernel
theorem dX6_explore_145 : decode cX6_explore 145 = .ok (.invokevirtual 43, 3) := by decide +kernel
theorem dX6_explore_148 : decode cX6_explore 148 = .ok (.astore 9, 2) := by decide +kernel
theorem dX6_explore_150 : decode cX6_explore 150 = .ok (.aload 8, 2) := by decide +kernel
theorem dX6_explore_152 : decode cX6_explore 152 = .ok (.iconst 2, 1) := by decide +kernel
theorem dX6_explore_153 : decode cX6_explore 153 = .ok (.iaload, 1) := by decide +kernel
theorem dX6_explore_154 : decode cX6_explore 154 = .ok (.ifCond .ne 45, 3) := by decide +kernel
theorem dX6_explore_157 : decode cX6_explore 157 = .ok (.aload 5, 2) := by decide +kernel
theorem dX6_explore_159 : decode cX6_explore 159 = .ok (.iconst 5, 1) := by decide +kernel
theorem dX6_explore_160 : decode cX6_explore 160 = .ok (.newarray .int, 2) := by decide +kernel
theorem dX6_explore_162 : decode cX6_explore 162 = .ok (.dup, 1) := by decide +kernel
theorem dX6_explore_163 : decode cX6_explore 163 = .ok (.iconst 0, 1) := by decide +kernel
theorem dX6_explore_164 : decode cX6_explore 164 = .ok (.aload_n 0, 1) := by decide +kernel
theorem dX6_explore_165 : decode cX6_explore 165 = .ok (.aload 9, 2) := by decide +kernel
theorem dX6_explore_167 : decode cX6_explore 167 = .ok (.iload 4, 2) := by decide +kernel
theorem dX6_explore_169 : decode cX6_explore 169 = .ok (.aload 5, 2) := by decide +kernel
theorem dX6_explore_171 : decode cX6_explore 171 = .ok (.arraylength, 1) := by decide +kernel
theorem dX6_explore_172 : decode cX6_explore 172 = .ok (.invokevirtual 58, 3) := by decide +kernel
theorem dX6_explore_175 : decode cX6_explore 175 = .ok (.iastore, 1) := by decide +kernel
theorem dX6_explore_176 : decode cX6_explore 176 = .ok (.dup, 1) := by decide +kernel
theorem dX6_explore_177 : decode cX6_explore 177 = .ok (.iconst 1, 1) := by decide +kernel
theorem dX6_explore_178 : decode cX6_explore 178 = .ok (.iload 6, 2) := by decide +kernel
theorem dX6_explore_180 : decode cX6_explore 180 = .ok (.iastore, 1) := by decide +kernel
theorem dX6_explore_181 : decode cX6_explore 181 = .ok (.dup, 1) := by decide +kernel
theorem dX6_explore_182 : decode cX6_explore 182 = .ok (.iconst 2, 1) := by decide +kernel
theorem dX6_explore_183 : decode cX6_explore 183 = .ok (.iload 7, 2) := by decide +kernel
theorem dX6_explore_185 : decode cX6_explore 185 = .ok (.iastore, 1) := by decide +kernel
theorem dX6_explore_186 : decode cX6_explore 186 = .ok (.dup, 1) := by decide +kernel
theorem dX6_explore_187 : decode cX6_explore 187 = .ok (.iconst 3, 1) := by decide +kernel
theorem dX6_explore_188 : decode cX6_explore 188 = .ok (.iconst (-1), 1) := by decide +kernel
theorem dX6_explore_189 : decode cX6_explore 189 = .ok (.iastore, 1) := by decide +kernel
theorem dX6_explore_190 : decode cX6_explore 190 = .ok (.dup, 1) := by decide +kernel
theorem dX6_explore_191 : decode cX6_explore 191 = .ok (.iconst 4, 1) := by decide +kernel
theorem dX6_explore_192 : decode cX6_explore 192 = .ok (.iconst (-1), 1) := by decide +kernel
theorem dX6_explore_193 : decode cX6_explore 193 = .ok (.iastore, 1) := by decide +kernel
theorem dX6_explore_194 : decode cX6_explore 194 = .ok (.invokestatic 51, 3) := by decide +kernel
theorem dX6_explore_197 : decode cX6_explore 197 = .ok (.astore 5, 2) := by decide +kernel
theorem dX6_explore_199 : decode cX6_explore 199 = .ok (.iload 6, 2) := by decide +kernel
theorem dX6_explore_201 : decode cX6_explore 201 = .ok (.iconst 1, 1) := by decide +kernel
theorem dX6_explore_202 : decode cX6_explore 202 = .ok (.iadd, 1) := by decide +kernel
theorem dX6_explore_203 : decode cX6_explore 203 = .ok (.istore 10, 2) := by decide +kernel
theorem dX6_explore_205 : decode cX6_explore 205 = .ok (.iload 10, 2) := by decide +kernel
theorem dX6_explore_207 : decode cX6_explore 207 = .ok (.iload_n 2, 1) := by decide +kernel
theorem dX6_explore_208 : decode cX6_explore 208 = .ok (.if_icmp .ge 147, 3) := by decide +kernel
theorem dX6_explore_211 : decode cX6_explore 211 = .ok (.aload 8, 2) := by decide +kernel
theorem dX6_explore_213 : decode cX6_explore 213 = .ok (.iconst 2, 1) := by decide +kernel
theorem dX6_explore_214 : decode cX6_explore 214 = .ok (.iaload, 1) := by decide +kernel
theorem dX6_explore_215 : decode cX6_explore 215 = .ok (.ifCond .le 140, 3) := by decide +kernel
theorem dX6_explore_218 : decode cX6_explore 218 = .ok (.iconst 0, 1) := by decide +kernel
theorem dX6_explore_219 : decode cX6_explore 219 = .ok (.istore 11, 2) := by decide +kernel
theorem dX6_explore_221 : decode cX6_explore 221 = .ok (.iload 11, 2) := by decide +kernel
theorem dX6_explore_223 : decode cX6_explore 223 = .ok (.aload_n 0, 1) := by decide +kernel
theorem dX6_explore_224 : decode cX6_explore 224 = .ok (.getfield 21, 3) := by decide +kernel
theorem dX6_explore_227 : decode cX6_explore 227 = .ok (.iload 10, 2) := by decide +kernel
theorem dX6_explore_229 : decode cX6_explore 229 = .ok (.aaload, 1) := by decide +kernel
theorem dX6_explore_230 : decode cX6_explore 230 = .ok (.arraylength, 1) := by decide +kernel
theorem dX6_explore_231 : decode cX6_explore 231 = .ok (.if_icmp .ge 118, 3) := by decide +kernel
theorem dX6_explore_234 : decode cX6_explore 234 = .ok (.aload_n 0, 1) := by decide +kernel
theorem dX6_explore_235 : decode cX6_explore 235 = .ok (.getfield 21, 3) := by decide +kernel
theorem dX6_explore_238 : decode cX6_explore 238 = .ok (.iload 10, 2) := by decide +kernel
theorem dX6_explore_240 : decode cX6_explore 240 = .ok (.aaload, 1) := by decide +kernel
theorem dX6_explore_241 : decode cX6_explore 241 = .ok (.iload 11, 2) := by decide +kernel
theorem dX6_explore_243 : decode cX6_explore 243 = .ok (.aaload, 1) := by decide +kernel
theorem dX6_explore_244 : decode cX6_explore 244 = .ok (.astore 12, 2) := by decide +kernel
theorem dX6_explore_246 : decode cX6_explore 246 = .ok (.aload 12, 2) := by decide +kernel
theorem dX6_explore_248 : decode cX6_explore 248 = .ok (.iconst 2, 1) := by decide +kernel
theorem dX6_explore_249 : decode cX6_explore 249 = .ok (.iaload, 1) := by decide +kernel
theorem dX6_explore_250 : decode cX6_explore 250 = .ok (.aload 8, 2) := by decide +kernel
theorem dX6_explore_252 : decode cX6_explore 252 = .ok (.iconst 2, 1) := by decide +kernel
theorem dX6_explore_253 : decode cX6_explore 253 = .ok (.iaload, 1) := by decide +kernel
theorem dX6_explore_254 : decode cX6_explore 254 = .ok (.if_icmp .ne 89, 3) := by decide +kernel
theorem dX6_explore_257 : decode cX6_explore 257 = .ok (.aload_n 0, 1) := by decide +kernel
theorem dX6_explore_258 : decode cX6_explore 258 = .ok (.aload_n 0, 1) := by decide +kernel
theorem dX6_explore_259 : decode cX6_explore 259 = .ok (.getfield 25, 3) := by decide +kernel
theorem dX6_explore_262 : decode cX6_explore 262 = .ok (.iload 4, 2) := by decide +kernel
theorem dX6_explore_264 : decode cX6_explore 264 = .ok (.aaload, 1) := by decide +kernel
theorem dX6_explore_265 : decode cX6_explore 265 = .ok (.iload 10, 2) := by decide +kernel
theorem dX6_explore_267 : decode cX6_explore 267 = .ok (.aload 12, 2) := by decide +kernel
theorem dX6_explore_269 : decode cX6_explore 269 = .ok (.invokevirtual 62, 3) := by decide +kernel
theorem dX6_explore_272 : decode cX6_explore 272 = .ok (.ifCond .eq 71, 3) := by decide +kernel
theorem dX6_explore_275 : decode cX6_explore 275 = .ok (.aload_n 0, 1) := by decide +kernel
theorem dX6_explore_276 : decode cX6_explore 276 = .ok (.aload 9, 2) := by decide +kernel
theorem dX6_explore_278 : decode cX6_explore 278 = .ok (.iload 10, 2) := by decide +kernel
theorem dX6_explore_280 : decode cX6_explore 280 = .ok (.aload 12, 2) := by decide +kernel
theorem dX6_explore_282 : decode cX6_explore 282 = .ok (.invokevirtual 43, 3) := by decide +kernel
theorem dX6_explore_285 : decode cX6_explore 285 = .ok (.ifnonnull 6, 3) := by decide +kernel
theorem dX6_explore_288 : decode cX6_explore 288 = .ok (.goto 55, 3) := by decide +kernel
theorem dX6_explore_291 : decode cX6_explore 291 = .ok (.aload 5, 2) := by decide +kernel
theorem dX6_explore_293 : decode cX6_explore 293 = .ok (.iconst 5, 1) := by decide +kernel
theorem dX6_explore_294 : decode cX6_explore 294 = .ok (.newarray .int, 2) := by decide +kernel
theorem dX6_explore_296 : decode cX6_explore 296 = .ok (.dup, 1) := by decide +kernel
theorem dX6_explore_297 : decode cX6_explore 297 = .ok (.iconst 0, 1) := by decide +kernel
theorem dX6_explore_298 : decode cX6_explore 298 = .ok (.aload_n 0, 1) := by decide +kernel
theorem dX6_explore_299 : decode cX6_explore 299 = .ok (.aload_n 0, 1) := by decide +kernel
theorem dX6_explore_300 : decode cX6_explore 300 = .ok (.aload 9, 2) := by decide +kernel
theorem dX6_explore_302 : decode cX6_explore 302 = .ok (.iload 10, 2) := by decide +kernel
theorem dX6_explore_304 : decode cX6_explore 304 = .ok (.aload 12, 2) := by decide +kernel
theorem dX6_explore_306 : decode cX6_explore 306 = .ok (.invokevirtual 43, 3) := by decide +kernel
theorem dX6_explore_309 : decode cX6_explore 309 = .ok (.iload 4, 2) := by decide +kernel
theorem dX6_explore_311 : decode cX6_explore 311 = .ok (.aload 5, 2) := by decide +kernel
theorem dX6_explore_313 : decode cX6_explore 313 = .ok (.arraylength, 1) := by decide +kernel
theorem dX6_explore_314 : decode cX6_explore 314 = .ok (.invokevirtual 58, 3) := by decide +kernel
theorem dX6_explore_317 : decode cX6_explore 317 = .ok (.iastore, 1) := by decide +kernel
theorem dX6_explore_318 : decode cX6_explore 318 = .ok (.dup, 1) := by decide +kernel
theorem dX6_explore_319 : decode cX6_explore 319 = .ok (.iconst 1, 1) := by decide +kernel
theorem dX6_explore_320 : decode cX6_explore 320 = .ok (.iload 6, 2) := by decide +kernel
theorem dX6_explore_322 : decode cX6_explore 322 = .ok (.iastore, 1) := by decide +kernel
theorem dX6_explore_323 : decode cX6_explore 323 = .ok (.dup, 1) := by decide +kernel
theorem dX6_explore_324 : decode cX6_explore 324 = .ok (.iconst 2, 1) := by decide +kernel
theorem dX6_explore_325 : decode cX6_explore 325 = .ok (.iload 7, 2) := by decide +kernel
theorem dX6_explore_327 : decode cX6_explore 327 = .ok (.iastore, 1) := by decide +kernel
theorem dX6_explore_328 : decode cX6_explore 328 = .ok (.dup, 1) := by decide +kernel
theorem dX6_explore_329 : decode cX6_explore 329 = .ok (.iconst 3, 1) := by decide +kernel
theorem dX6_explore_330 : decode cX6_explore 330 = .ok (.iload 10, 2) := by decide +kernel
theorem dX6_explore_332 : decode cX6_explore 332 = .ok (.iastore, 1) := by decide +kernel
theorem dX6_explore_333 : decode cX6_explore 333 = .ok (.dup, 1) := by decide +kernel
theorem dX6_explore_334 : decode cX6_explore 334 = .ok (.iconst 4, 1) := by decide +kernel
theorem dX6_explore_335 : decode cX6_explore 335 = .ok (.iload 11, 2) := by decide +kernel
theorem dX6_explore_337 : decode cX6_explore 337 = .ok (.iastore, 1) := by decide +kernel
theorem dX6_explore_338 : decode cX6_explore 338 = .ok (.invokestatic 51, 3) := by decide +kernel
theorem dX6_explore_341 : decode cX6_explore 341 = .ok (.astore 5, 2) := by decide +kernel
theorem dX6_explore_343 : decode cX6_explore 343 = .ok (.iinc 11 1, 3) := by decide +kernel
theorem dX6_explore_346 : decode cX6_explore 346 = .ok (.goto (-125), 3) := by decide +kernel
theorem dX6_explore_349 : decode cX6_explore 349 = .ok (.iinc 10 1, 3) := by decide +kernel
theorem dX6_explore_352 : decode cX6_explore 352 = .ok (.goto (-147), 3) := by decide +kernel
theorem dX6_explore_355 : decode cX6_explore 355 = .ok (.aload_n 0, 1) := by decide +kernel
theorem dX6_explore_356 : decode cX6_explore 356 = .ok (.getfield 25, 3) := by decide +kernel
theorem dX6_explore_359 : decode cX6_explore 359 = .ok (.arraylength, 1) := by decide +kernel
theorem dX6_explore_360 : decode cX6_explore 360 = .ok (.iload_n 1, 1) := by decide +kernel
theorem dX6_explore_361 : decode cX6_explore 361 = .ok (.if_icmp .le 5, 3) := by decide +kernel
theorem dX6_explore_364 : decode cX6_explore 364 = .ok (.iconst 0, 1) := by decide +kernel
theorem dX6_explore_365 : decode cX6_explore 365 = .ok (.ireturn, 1) := by decide +kernel
theorem dX6_explore_366 : decode cX6_explore 366 = .ok (.iinc 7 1, 3) := by decide +kernel
theorem dX6_explore_369 : decode cX6_explore 369 = .ok (.goto (-282), 3) := by decide +kernel
theorem dX6_explore_372 : decode cX6_explore 372 = .ok (.iinc 6 1, 3) := by decide +kernel
theorem dX6_explore_375 : decode cX6_explore 375 = .ok (.goto (-297), 3) := by decide +kernel
theorem dX6_explore_378 : decode cX6_explore 378 = .ok (.aload_n 0, 1) := by decide +kernel
theorem dX6_explore_379 : decode cX6_explore 379 = .ok (.getfield 30, 3) := by decide +kernel
theorem dX6_explore_382 : decode cX6_explore 382 = .ok (.arraylength, 1) := by decide +kernel
theorem dX6_explore_383 : decode cX6_explore 383 = .ok (.iconst 1, 1) := by decide +kernel
theorem dX6_explore_384 : decode cX6_explore 384 = .ok (.iadd, 1) := by decide +kernel
theorem dX6_explore_385 : decode cX6_explore 385 = .ok (.anewarray 29, 3) := by decide +kernel
theorem dX6_explore_388 : decode cX6_explore 388 = .ok (.astore 6, 2) := by decide +kernel
theorem dX6_explore_390 : decode cX6_explore 390 = .ok (.iconst 0, 1) := by decide +kernel
theorem dX6_explore_391 : decode cX6_explore 391 = .ok (.istore 7, 2) := by decide +kernel
theorem dX6_explore_393 : decode cX6_explore 393 = .ok (.iload 7, 2) := by decide +kernel
theorem dX6_explore_395 : decode cX6_explore 395 = .ok (.aload_n 0, 1) := by decide +kernel
theorem dX6_explore_396 : decode cX6_explore 396 = .ok (.getfield 30, 3) := by decide +kernel
theorem dX6_explore_399 : decode cX6_explore 399 = .ok (.arraylength, 1) := by decide +kernel
theorem dX6_explore_400 : decode cX6_explore 400 = .ok (.if_icmp .ge 21, 3) := by decide +kernel
theorem dX6_explore_403 : decode cX6_explore 403 = .ok (.aload 6, 2) := by decide +kernel
theorem dX6_explore_405 : decode cX6_explore 405 = .ok (.iload 7, 2) := by decide +kernel
theorem dX6_explore_407 : decode cX6_explore 407 = .ok (.aload_n 0, 1) := by decide +kernel
theorem dX6_explore_408 : decode cX6_explore 408 = .ok (.getfield 30, 3) := by decide +kernel
theorem dX6_explore_411 : decode cX6_explore 411 = .ok (.iload 7, 2) := by decide +kernel
theorem dX6_explore_413 : decode cX6_explore 413 = .ok (.aaload, 1) := by decide +kernel
theorem dX6_explore_414 : decode cX6_explore 414 = .ok (.aastore, 1) := by decide +kernel
theorem dX6_explore_415 : decode cX6_explore 415 = .ok (.iinc 7 1, 3) := by decide +kernel
theorem dX6_explore_418 : decode cX6_explore 418 = .ok (.goto (-25), 3) := by decide +kernel
theorem dX6_explore_421 : decode cX6_explore 421 = .ok (.aload 6, 2) := by decide +kernel
theorem dX6_explore_423 : decode cX6_explore 423 = .ok (.aload_n 0, 1) := by decide +kernel
theorem dX6_explore_424 : decode cX6_explore 424 = .ok (.getfield 30, 3) := by decide +kernel
theorem dX6_explore_427 : decode cX6_explore 427 = .ok (.arraylength, 1) := by decide +kernel
theorem dX6_explore_428 : decode cX6_explore 428 = .ok (.aload 5, 2) := by decide +kernel
theorem dX6_explore_430 : decode cX6_explore 430 = .ok (.aastore, 1) := by decide +kernel
theorem dX6_explore_431 : decode cX6_explore 431 = .ok (.aload_n 0, 1) := by decide +kernel
theorem dX6_explore_432 : decode cX6_explore 432 = .ok (.aload 6, 2) := by decide +kernel
theorem dX6_explore_434 : decode cX6_explore 434 = .ok (.putfield 30, 3) := by decide +kernel
theorem dX6_explore_437 : decode cX6_explore 437 = .ok (.iinc 4 1, 3) := by decide +kernel
theorem dX6_explore_440 : decode cX6_explore 440 = .ok (.goto (-381), 3) := by decide +kernel
theorem dX6_explore_443 : decode cX6_explore 443 = .ok (.iconst 1, 1) := by decide +kernel
theorem dX6_explore_444 : decode cX6_explore 444 = .ok (.ireturn, 1) := by decide +kernel
theorem dJ9_min_7cf53_0 : decode cJ9_min_7cf53 0 = .ok (.iload_n 0, 1) := by decide +kernel
theorem dJ9_min_7cf53_1 : decode cJ9_min_7cf53 1 = .ok (.iload_n 1, 1) := by decide +kernel
theorem dJ9_min_7cf53_2 : decode cJ9_min_7cf53 2 = .ok (.if_icmp .gt 7, 3) := by decide +kernel
theorem dJ9_min_7cf53_5 : decode cJ9_min_7cf53 5 = .ok (.iload_n 0, 1) := by decide +kernel
theorem dJ9_min_7cf53_6 : decode cJ9_min_7cf53 6 = .ok (.goto 4, 3) := by decide +kernel
theorem dJ9_min_7cf53_9 : decode cJ9_min_7cf53 9 = .ok (.iload_n 1, 1) := by decide +kernel
theorem dJ9_min_7cf53_10 : decode cJ9_min_7cf53 10 = .ok (.ireturn, 1) := by decide +kernel
theorem dJ7_fill_53178_0 : decode cJ7_fill_53178 0 = .ok (.iconst 0, 1) := by decide +kernel
theorem dJ7_fill_53178_1 : decode cJ7_fill_53178 1 = .ok (.istore_n 2, 1) := by decide +kernel
theorem dJ7_fill_53178_2 : decode cJ7_fill_53178 2 = .ok (.aload_n 0, 1) := by decide +kernel
theorem dJ7_fill_53178_3 : decode cJ7_fill_53178 3 = .ok (.arraylength, 1) := by decide +kernel
theorem dJ7_fill_53178_4 : decode cJ7_fill_53178 4 = .ok (.istore_n 3, 1) := by decide +kernel
theorem dJ7_fill_53178_5 : decode cJ7_fill_53178 5 = .ok (.iload_n 2, 1) := by decide +kernel
theorem dJ7_fill_53178_6 : decode cJ7_fill_53178 6 = .ok (.iload_n 3, 1) := by decide +kernel
theorem dJ7_fill_53178_7 : decode cJ7_fill_53178 7 = .ok (.if_icmp .ge 13, 3) := by decide +kernel
theorem dJ7_fill_53178_10 : decode cJ7_fill_53178 10 = .ok (.aload_n 0, 1) := by decide +kernel
theorem dJ7_fill_53178_11 : decode cJ7_fill_53178 11 = .ok (.iload_n 2, 1) := by decide +kernel
theorem dJ7_fill_53178_12 : decode cJ7_fill_53178 12 = .ok (.iload_n 1, 1) := by decide +kernel
theorem dJ7_fill_53178_13 : decode cJ7_fill_53178 13 = .ok (.iastore, 1) := by decide +kernel
theorem dJ7_fill_53178_14 : decode cJ7_fill_53178 14 = .ok (.iinc 2 1, 3) := by decide +kernel
theorem dJ7_fill_53178_17 : decode cJ7_fill_53178 17 = .ok (.goto (-12), 3) := by decide +kernel
theorem dJ7_fill_53178_20 : decode cJ7_fill_53178 20 = .ok (.return_, 1) := by decide +kernel
theorem dJ7_copyOf_59c91_0 : decode cJ7_copyOf_59c91 0 = .ok (.iload_n 1, 1) := by decide +kernel
theorem dJ7_copyOf_59c91_1 : decode cJ7_copyOf_59c91 1 = .ok (.aload_n 0, 1) := by decide +kernel
theorem dJ7_copyOf_59c91_2 : decode cJ7_copyOf_59c91 2 = .ok (.arraylength, 1) := by decide +kernel
theorem dJ7_copyOf_59c91_3 : decode cJ7_copyOf_59c91 3 = .ok (.if_icmp .ne 11, 3) := by decide +kernel
theorem dJ7_copyOf_59c91_6 : decode cJ7_copyOf_59c91 6 = .ok (.aload_n 0, 1) := by decide +kernel
theorem dJ7_copyOf_59c91_7 : decode cJ7_copyOf_59c91 7 = .ok (.invokevirtual 316, 3) := by decide +kernel
theorem dJ7_copyOf_59c91_10 : decode cJ7_copyOf_59c91 10 = .ok (.checkcast 317, 3) := by decide +kernel
theorem dJ7_copyOf_59c91_13 : decode cJ7_copyOf_59c91 13 = .ok (.areturn, 1) := by decide +kernel
theorem dJ7_copyOf_59c91_14 : decode cJ7_copyOf_59c91 14 = .ok (.iload_n 1, 1) := by decide +kernel
theorem dJ7_copyOf_59c91_15 : decode cJ7_copyOf_59c91 15 = .ok (.newarray .int, 2) := by decide +kernel
theorem dJ7_copyOf_59c91_17 : decode cJ7_copyOf_59c91 17 = .ok (.astore_n 2, 1) := by decide +kernel
theorem dJ7_copyOf_59c91_18 : decode cJ7_copyOf_59c91 18 = .ok (.aload_n 0, 1) := by decide +kernel
theorem dJ7_copyOf_59c91_19 : decode cJ7_copyOf_59c91 19 = .ok (.iconst 0, 1) := by decide +kernel
theorem dJ7_copyOf_59c91_20 : decode cJ7_copyOf_59c91 20 = .ok (.aload_n 2, 1) := by decide +kernel
theorem dJ7_copyOf_59c91_21 : decode cJ7_copyOf_59c91 21 = .ok (.iconst 0, 1) := by decide +kernel
theorem dJ7_copyOf_59c91_22 : decode cJ7_copyOf_59c91 22 = .ok (.aload_n 0, 1) := by decide +kernel
theorem dJ7_copyOf_59c91_23 : decode cJ7_copyOf_59c91 23 = .ok (.arraylength, 1) := by decide +kernel
theorem dJ7_copyOf_59c91_24 : decode cJ7_copyOf_59c91 24 = .ok (.iload_n 1, 1) := by decide +kernel
theorem dJ7_copyOf_59c91_25 : decode cJ7_copyOf_59c91 25 = .ok (.invokestatic 304, 3) := by decide +kernel
theorem dJ7_copyOf_59c91_28 : decode cJ7_copyOf_59c91 28 = .ok (.invokestatic 150, 3) := by decide +kernel
theorem dJ7_copyOf_59c91_31 : decode cJ7_copyOf_59c91 31 = .ok (.aload_n 2, 1) := by decide +kernel
theorem dJ7_copyOf_59c91_32 : decode cJ7_copyOf_59c91 32 = .ok (.areturn, 1) := by decide +kernel
theorem dL_below_0 : decode cL_below 0 = .ok (.iload_n 0, 1) := by decide +kernel
theorem dL_below_1 : decode cL_below 1 = .ok (.ldc 7, 2) := by decide +kernel
theorem dL_below_3 : decode cL_below 3 = .ok (.iand, 1) := by decide +kernel
theorem dL_below_4 : decode cL_below 4 = .ok (.iload_n 1, 1) := by decide +kernel
theorem dL_below_5 : decode cL_below 5 = .ok (.irem, 1) := by decide +kernel
theorem dL_below_6 : decode cL_below 6 = .ok (.ireturn, 1) := by decide +kernel
theorem dL_cell_0 : decode cL_cell 0 = .ok (.iload_n 1, 1) := by decide +kernel
theorem dL_cell_1 : decode cL_cell 1 = .ok (.aload_n 0, 1) := by decide +kernel
theorem dL_cell_2 : decode cL_cell 2 = .ok (.arraylength, 1) := by decide +kernel
theorem dL_cell_3 : decode cL_cell 3 = .ok (.if_icmp .ge 9, 3) := by decide +kernel
theorem dL_cell_6 : decode cL_cell 6 = .ok (.aload_n 0, 1) := by decide +kernel
theorem dL_cell_7 : decode cL_cell 7 = .ok (.iload_n 1, 1) := by decide +kernel
theorem dL_cell_8 : decode cL_cell 8 = .ok (.iaload, 1) := by decide +kernel
theorem dL_cell_9 : decode cL_cell 9 = .ok (.goto 9, 3) := by decide +kernel
theorem dL_cell_12 : decode cL_cell 12 = .ok (.ldc 8, 2) := by decide +kernel
theorem dL_cell_14 : decode cL_cell 14 = .ok (.iload_n 1, 1) := by decide +kernel
theorem dL_cell_15 : decode cL_cell 15 = .ok (.iconst 3, 1) := by decide +kernel
theorem dL_cell_16 : decode cL_cell 16 = .ok (.iadd, 1) := by decide +kernel
theorem dL_cell_17 : decode cL_cell 17 = .ok (.imul, 1) := by decide +kernel
theorem dL_cell_18 : decode cL_cell 18 = .ok (.ireturn, 1) := by decide +kernel
theorem dL_build_0 : decode cL_build 0 = .ok (.new 9, 3) := by decide +kernel
theorem dL_build_3 : decode cL_build 3 = .ok (.dup, 1) := by decide +kernel
theorem dL_build_4 : decode cL_build 4 = .ok (.invokespecial 11, 3) := by decide +kernel
theorem dL_build_7 : decode cL_build 7 = .ok (.astore_n 2, 1) := by decide +kernel
theorem dL_build_8 : decode cL_build 8 = .ok (.iconst 1, 1) := by decide +kernel
theorem dL_build_9 : decode cL_build 9 = .ok (.aload_n 1, 1) := by decide +kernel
theorem dL_build_10 : decode cL_build 10 = .ok (.iconst 0, 1) := by decide +kernel
theorem dL_build_11 : decode cL_build 11 = .ok (.invokestatic 12, 3) := by decide +kernel
theorem dL_build_14 : decode cL_build 14 = .ok (.iconst 3, 1) := by decide +kernel
theorem dL_build_15 : decode cL_build 15 = .ok (.invokestatic 18, 3) := by decide +kernel
theorem dL_build_18 : decode cL_build 18 = .ok (.iadd, 1) := by decide +kernel
theorem dL_build_19 : decode cL_build 19 = .ok (.istore_n 3, 1) := by decide +kernel
theorem dL_build_20 : decode cL_build 20 = .ok (.aload_n 1, 1) := by decide +kernel
theorem dL_build_21 : decode cL_build 21 = .ok (.iconst 0, 1) := by decide +kernel
theorem dL_build_22 : decode cL_build 22 = .ok (.invokestatic 12, 3) := by decide +kernel
theorem dL_build_25 : decode cL_build 25 = .ok (.iconst 3, 1) := by decide +kernel
theorem dL_build_26 : decode cL_build 26 = .ok (.ishr, 1) := by decide +kernel
theorem dL_build_27 : decode cL_build 27 = .ok (.iconst 3, 1) := by decide +kernel
theorem dL_build_28 : decode cL_build 28 = .ok (.invokestatic 18, 3) := by decide +kernel
theorem dL_build_31 : decode cL_build 31 = .ok (.istore 4, 2) := by decide +kernel
theorem dL_build_33 : decode cL_build 33 = .ok (.iconst 0, 1) := by decide +kernel
theorem dL_build_34 : decode cL_build 34 = .ok (.istore 5, 2) := by decide +kernel
theorem dL_build_36 : decode cL_build 36 = .ok (.iload 5, 2) := by decide +kernel
theorem dL_build_38 : decode cL_build 38 = .ok (.iload_n 3, 1) := by decide +kernel
theorem dL_build_39 : decode cL_build 39 = .ok (.if_icmp .ge 53, 3) := by decide +kernel
theorem dL_build_42 : decode cL_build 42 = .ok (.iconst 1, 1) := by decide +kernel
theorem dL_build_43 : decode cL_build 43 = .ok (.aload_n 1, 1) := by decide +kernel
theorem dL_build_44 : decode cL_build 44 = .ok (.iconst 1, 1) := by decide +kernel
theorem dL_build_45 : decode cL_build 45 = .ok (.invokestatic 12, 3) := by decide +kernel
theorem dL_build_48 : decode cL_build 48 = .ok (.iconst 3, 1) := by decide +kernel
theorem dL_build_49 : decode cL_build 49 = .ok (.iload 5, 2) := by decide +kernel
theorem dL_build_51 : decode cL_build 51 = .ok (.imul, 1) := by decide +kernel
theorem dL_build_52 : decode cL_build 52 = .ok (.ishr, 1) := by decide +kernel
theorem dL_build_53 : decode cL_build 53 = .ok (.iconst 4, 1) := by decide +kernel
theorem dL_build_54 : decode cL_build 54 = .ok (.invokestatic 18, 3) := by decide +kernel
theorem dL_build_57 : decode cL_build 57 = .ok (.iadd, 1) := by decide +kernel
theorem dL_build_58 : decode cL_build 58 = .ok (.istore 6, 2) := by decide +kernel
theorem dL_build_60 : decode cL_build 60 = .ok (.aload_n 2, 1) := by decide +kernel
theorem dL_build_61 : decode cL_build 61 = .ok (.aload_n 2, 1) := by decide +kernel
theorem dL_build_62 : decode cL_build 62 = .ok (.getfield 22, 3) := by decide +kernel
theorem dL_build_65 : decode cL_build 65 = .ok (.iload 6, 2) := by decide +kernel
theorem dL_build_67 : decode cL_build 67 = .ok (.invokestatic 26, 3) := by decide +kernel
theorem dL_build_70 : decode cL_build 70 = .ok (.putfield 22, 3) := by decide +kernel
theorem dL_build_73 : decode cL_build 73 = .ok (.aload_n 0, 1) := by decide +kernel
theorem dL_build_74 : decode cL_build 74 = .ok (.iload 6, 2) := by decide +kernel
theorem dL_build_76 : decode cL_build 76 = .ok (.invokevirtual 30, 3) := by decide +kernel
theorem dL_build_79 : decode cL_build 79 = .ok (.iload 5, 2) := by decide +kernel
theorem dL_build_81 : decode cL_build 81 = .ok (.if_icmp .eq 5, 3) := by decide +kernel
theorem dL_build_84 : decode cL_build 84 = .ok (.aconst_null, 1) := by decide +kernel
theorem dL_build_85 : decode cL_build 85 = .ok (.areturn, 1) := by decide +kernel
theorem dL_build_86 : decode cL_build 86 = .ok (.iinc 5 1, 3) := by decide +kernel
theorem dL_build_89 : decode cL_build 89 = .ok (.goto (-53), 3) := by decide +kernel
theorem dL_build_92 : decode cL_build 92 = .ok (.iconst 0, 1) := by decide +kernel
theorem dL_build_93 : decode cL_build 93 = .ok (.istore 5, 2) := by decide +kernel
theorem dL_build_95 : decode cL_build 95 = .ok (.iload 5, 2) := by decide +kernel
theorem dL_build_97 : decode cL_build 97 = .ok (.iload 4, 2) := by decide +kernel
theorem dL_build_99 : decode cL_build 99 = .ok (.if_icmp .ge 89, 3) := by decide +kernel
theorem dL_build_102 : decode cL_build 102 = .ok (.iconst 1, 1) := by decide +kernel
theorem dL_build_103 : decode cL_build 103 = .ok (.aload_n 1, 1) := by decide +kernel
theorem dL_build_104 : decode cL_build 104 = .ok (.iconst 2, 1) := by decide +kernel
theorem dL_build_105 : decode cL_build 105 = .ok (.invokestatic 12, 3) := by decide +kernel
theorem dL_build_108 : decode cL_build 108 = .ok (.iconst 4, 1) := by decide +kernel
theorem dL_build_109 : decode cL_build 109 = .ok (.iload 5, 2) := by decide +kernel
theorem dL_build_111 : decode cL_build 111 = .ok (.imul, 1) := by decide +kernel
theorem dL_build_112 : decode cL_build 112 = .ok (.ishr, 1) := by decide +kernel
theorem dL_build_113 : decode cL_build 113 = .ok (.iconst 3, 1) := by decide +kernel
theorem dL_build_114 : decode cL_build 114 = .ok (.invokestatic 18, 3) := by decide +kernel
theorem dL_build_117 : decode cL_build 117 = .ok (.iadd, 1) := by decide +kernel
theorem dL_build_118 : decode cL_build 118 = .ok (.istore 6, 2) := by decide +kernel
theorem dL_build_120 : decode cL_build 120 = .ok (.aload_n 1, 1) := by decide +kernel
theorem dL_build_121 : decode cL_build 121 = .ok (.iconst 2, 1) := by decide +kernel
theorem dL_build_122 : decode cL_build 122 = .ok (.invokestatic 12, 3) := by decide +kernel
theorem dL_build_125 : decode cL_build 125 = .ok (.iconst 4, 1) := by decide +kernel
theorem dL_build_126 : decode cL_build 126 = .ok (.iload 5, 2) := by decide +kernel
theorem dL_build_128 : decode cL_build 128 = .ok (.imul, 1) := by decide +kernel
theorem dL_build_129 : decode cL_build 129 = .ok (.iconst 2, 1) := by decide +kernel
theorem dL_build_130 : decode cL_build 130 = .ok (.iadd, 1) := by decide +kernel
theorem dL_build_131 : decode cL_build 131 = .ok (.ishr, 1) := by decide +kernel
theorem dL_build_132 : decode cL_build 132 = .ok (.iload 6, 2) := by decide +kernel
theorem dL_build_134 : decode cL_build 134 = .ok (.iconst 1, 1) := by decide +kernel
theorem dL_build_135 : decode cL_build 135 = .ok (.iadd, 1) := by decide +kernel
theorem dL_build_136 : decode cL_build 136 = .ok (.invokestatic 18, 3) := by decide +kernel
theorem dL_build_139 : decode cL_build 139 = .ok (.istore 7, 2) := by decide +kernel
theorem dL_build_141 : decode cL_build 141 = .ok (.aload_n 2, 1) := by decide +kernel
theorem dL_build_142 : decode cL_build 142 = .ok (.aload_n 2, 1) := by decide +kernel
theorem dL_build_143 : decode cL_build 143 = .ok (.getfield 36, 3) := by decide +kernel
theorem dL_build_146 : decode cL_build 146 = .ok (.iload 6, 2) := by decide +kernel
theorem dL_build_148 : decode cL_build 148 = .ok (.invokestatic 26, 3) := by decide +kernel
theorem dL_build_151 : decode cL_build 151 = .ok (.putfield 36, 3) := by decide +kernel
theorem dL_build_154 : decode cL_build 154 = .ok (.aload_n 2, 1) := by decide +kernel
theorem dL_build_155 : decode cL_build 155 = .ok (.aload_n 2, 1) := by decide +kernel
theorem dL_build_156 : decode cL_build 156 = .ok (.getfield 39, 3) := by decide +kernel
theorem dL_build_159 : decode cL_build 159 = .ok (.iload 7, 2) := by decide +kernel
theorem dL_build_161 : decode cL_build 161 = .ok (.invokestatic 26, 3) := by decide +kernel
theorem dL_build_164 : decode cL_build 164 = .ok (.putfield 39, 3) := by decide +kernel
theorem dL_build_167 : decode cL_build 167 = .ok (.aload_n 0, 1) := by decide +kernel
theorem dL_build_168 : decode cL_build 168 = .ok (.iload 6, 2) := by decide +kernel
theorem dL_build_170 : decode cL_build 170 = .ok (.iload 7, 2) := by decide +kernel
theorem dL_build_172 : decode cL_build 172 = .ok (.invokevirtual 42, 3) := by decide +kernel
theorem dL_build_175 : decode cL_build 175 = .ok (.iload 5, 2) := by decide +kernel
theorem dL_build_177 : decode cL_build 177 = .ok (.if_icmp .eq 5, 3) := by decide +kernel
theorem dL_build_180 : decode cL_build 180 = .ok (.aconst_null, 1) := by decide +kernel
theorem dL_build_181 : decode cL_build 181 = .ok (.areturn, 1) := by decide +kernel
theorem dL_build_182 : decode cL_build 182 = .ok (.iinc 5 1, 3) := by decide +kernel
theorem dL_build_185 : decode cL_build 185 = .ok (.goto (-90), 3) := by decide +kernel
theorem dL_build_188 : decode cL_build 188 = .ok (.iconst 0, 1) := by decide +kernel
theorem dL_build_189 : decode cL_build 189 = .ok (.istore 5, 2) := by decide +kernel
theorem dL_build_191 : decode cL_build 191 = .ok (.iload 5, 2) := by decide +kernel
theorem dL_build_193 : decode cL_build 193 = .ok (.iload_n 3, 1) := by decide +kernel
theorem dL_build_194 : decode cL_build 194 = .ok (.if_icmp .ge 373, 3) := by decide +kernel
theorem dL_build_197 : decode cL_build 197 = .ok (.iconst 1, 1) := by decide +kernel
theorem dL_build_198 : decode cL_build 198 = .ok (.aload_n 1, 1) := by decide +kernel
theorem dL_build_199 : decode cL_build 199 = .ok (.iconst 3, 1) := by decide +kernel
theorem dL_build_200 : decode cL_build 200 = .ok (.invokestatic 12, 3) := by decide +kernel
theorem dL_build_203 : decode cL_build 203 = .ok (.iconst 4, 1) := by decide +kernel
theorem dL_build_204 : decode cL_build 204 = .ok (.iload 5, 2) := by decide +kernel
theorem dL_build_206 : decode cL_build 206 = .ok (.imul, 1) := by decide +kernel
theorem dL_build_207 : decode cL_build 207 = .ok (.ishr, 1) := by decide +kernel
theorem dL_build_208 : decode cL_build 208 = .ok (.bipush 6, 2) := by decide +kernel
theorem dL_build_210 : decode cL_build 210 = .ok (.invokestatic 18, 3) := by decide +kernel
theorem dL_build_213 : decode cL_build 213 = .ok (.iadd, 1) := by decide +kernel
theorem dL_build_214 : decode cL_build 214 = .ok (.istore 6, 2) := by decide +kernel
theorem dL_build_216 : decode cL_build 216 = .ok (.iconst 0, 1) := by decide +kernel
theorem dL_build_217 : decode cL_build 217 = .ok (.istore 7, 2) := by decide +kernel
theorem dL_build_219 : decode cL_build 219 = .ok (.iload 7, 2) := by decide +kernel
theorem dL_build_221 : decode cL_build 221 = .ok (.iload 6, 2) := by decide +kernel
theorem dL_build_223 : decode cL_build 223 = .ok (.if_icmp .ge 338, 3) := by decide +kernel
theorem dL_build_226 : decode cL_build 226 = .ok (.aload_n 1, 1) := by decide +kernel
theorem dL_build_227 : decode cL_build 227 = .ok (.iconst 4, 1) := by decide +kernel
theorem dL_build_228 : decode cL_build 228 = .ok (.iload 7, 2) := by decide +kernel
theorem dL_build_230 : decode cL_build 230 = .ok (.iconst 5, 1) := by decide +kernel
theorem dL_build_231 : decode cL_build 231 = .ok (.iload 5, 2) := by decide +kernel
theorem dL_build_233 : decode cL_build 233 = .ok (.imul, 1) := by decide +kernel
theorem dL_build_234 : decode cL_build 234 = .ok (.iadd, 1) := by decide +kernel
theorem dL_build_235 : decode cL_build 235 = .ok (.bipush 12, 2) := by decide +kernel
theorem dL_build_237 : decode cL_build 237 = .ok (.irem, 1) := by decide +kernel
theorem dL_build_238 : decode cL_build 238 = .ok (.iadd, 1) := by decide +kernel
theorem dL_build_239 : decode cL_build 239 = .ok (.invokestatic 12, 3) := by decide +kernel
theorem dL_build_242 : decode cL_build 242 = .ok (.iload 5, 2) := by decide +kernel
theorem dL_build_244 : decode cL_build 244 = .ok (.ishr, 1) := by decide +kernel
theorem dL_build_245 : decode cL_build 245 = .ok (.istore 8, 2) := by decide +kernel
theorem dL_build_247 : decode cL_build 247 = .ok (.bipush 9, 2) := by decide +kernel
theorem dL_build_249 : decode cL_build 249 = .ok (.newarray .int, 2) := by decide +kernel
theorem dL_build_251 : decode cL_build 251 = .ok (.dup, 1) := by decide +kernel
theorem dL_build_252 : decode cL_build 252 = .ok (.iconst 0, 1) := by decide +kernel
theorem dL_build_253 : decode cL_build 253 = .ok (.iload 8, 2) := by decide +kernel
theorem dL_build_255 : decode cL_build 255 = .ok (.aload_n 2, 1) := by decide +kernel
theorem dL_build_256 : decode cL_build 256 = .ok (.getfield 22, 3) := by decide +kernel
theorem dL_build_259 : decode cL_build 259 = .ok (.iload 5, 2) := by decide +kernel
theorem dL_build_261 : decode cL_build 261 = .ok (.iaload, 1) := by decide +kernel
theorem dL_build_262 : decode cL_build 262 = .ok (.invokestatic 18, 3) := by decide +kernel
theorem dL_build_265 : decode cL_build 265 = .ok (.iastore, 1) := by decide +kernel
theorem dL_build_266 : decode cL_build 266 = .ok (.dup, 1) := by decide +kernel
theorem dL_build_267 : decode cL_build 267 = .ok (.iconst 1, 1) := by decide +kernel
theorem dL_build_268 : decode cL_build 268 = .ok (.iload 8, 2) := by decide +kernel
theorem dL_build_270 : decode cL_build 270 = .ok (.iconst 2, 1) := by decide +kernel
theorem dL_build_271 : decode cL_build 271 = .ok (.ishr, 1) := by decide +kernel
theorem dL_build_272 : decode cL_build 272 = .ok (.aload_n 2, 1) := by decide +kernel
theorem dL_build_273 : decode cL_build 273 = .ok (.getfield 22, 3) := by decide +kernel
theorem dL_build_276 : decode cL_build 276 = .ok (.iload 5, 2) := by decide +kernel
theorem dL_build_278 : decode cL_build 278 = .ok (.iaload, 1) := by decide +kernel
theorem dL_build_279 : decode cL_build 279 = .ok (.invokestatic 18, 3) := by decide +kernel
theorem dL_build_282 : decode cL_build 282 = .ok (.iastore, 1) := by decide +kernel
theorem dL_build_283 : decode cL_build 283 = .ok (.dup, 1) := by decide +kernel
theorem dL_build_284 : decode cL_build 284 = .ok (.iconst 2, 1) := by decide +kernel
theorem dL_build_285 : decode cL_build 285 = .ok (.iload 8, 2) := by decide +kernel
theorem dL_build_287 : decode cL_build 287 = .ok (.iconst 4, 1) := by decide +kernel
theorem dL_build_288 : decode cL_build 288 = .ok (.ishr, 1) := by decide +kernel
theorem dL_build_289 : decode cL_build 289 = .ok (.iconst 3, 1) := by decide +kernel
theorem dL_build_290 : decode cL_build 290 = .ok (.invokestatic 18, 3) := by decide +kernel
theorem dL_build_293 : decode cL_build 293 = .ok (.ifCond .ne 17, 3) := by decide +kernel
theorem dL_build_296 : decode cL_build 296 = .ok (.iconst 1, 1) := by decide +kernel
theorem dL_build_297 : decode cL_build 297 = .ok (.iload 8, 2) := by decide +kernel
theorem dL_build_299 : decode cL_build 299 = .ok (.bipush 6, 2) := by decide +kernel
theorem dL_build_301 : decode cL_build 301 = .ok (.ishr, 1) := by decide +kernel
theorem dL_build_302 : decode cL_build 302 = .ok (.iconst 2, 1) := by decide +kernel
theorem dL_build_303 : decode cL_build 303 = .ok (.invokestatic 18, 3) := by decide +kernel
theorem dL_build_306 : decode cL_build 306 = .ok (.iadd, 1) := by decide +kernel
theorem dL_build_307 : decode cL_build 307 = .ok (.goto 4, 3) := by decide +kernel
theorem dL_build_310 : decode cL_build 310 = .ok (.iconst 0, 1) := by decide +kernel
theorem dL_build_311 : decode cL_build 311 = .ok (.iastore, 1) := by decide +kernel
theorem dL_build_312 : decode cL_build 312 = .ok (.dup, 1) := by decide +kernel
theorem dL_build_313 : decode cL_build 313 = .ok (.iconst 3, 1) := by decide +kernel
theorem dL_build_314 : decode cL_build 314 = .ok (.iconst 0, 1) := by decide +kernel
theorem dL_build_315 : decode cL_build 315 = .ok (.iastore, 1) := by decide +kernel
theorem dL_build_316 : decode cL_build 316 = .ok (.dup, 1) := by decide +kernel
theorem dL_build_317 : decode cL_build 317 = .ok (.iconst 4, 1) := by decide +kernel
theorem dL_build_318 : decode cL_build 318 = .ok (.iconst 0, 1) := by decide +kernel
theorem dL_build_319 : decode cL_build 319 = .ok (.iastore, 1) := by decide +kernel
theorem dL_build_320 : decode cL_build 320 = .ok (.dup, 1) := by decide +kernel
theorem dL_build_321 : decode cL_build 321 = .ok (.iconst 5, 1) := by decide +kernel
theorem dL_build_322 : decode cL_build 322 = .ok (.iconst 0, 1) := by decide +kernel
theorem dL_build_323 : decode cL_build 323 = .ok (.iastore, 1) := by decide +kernel
theorem dL_build_324 : decode cL_build 324 = .ok (.dup, 1) := by decide +kernel
theorem dL_build_325 : decode cL_build 325 = .ok (.bipush 6, 2) := by decide +kernel
theorem dL_build_327 : decode cL_build 327 = .ok (.iconst 0, 1) := by decide +kernel
theorem dL_build_328 : decode cL_build 328 = .ok (.iastore, 1) := by decide +kernel
theorem dL_build_329 : decode cL_build 329 = .ok (.dup, 1) := by decide +kernel
theorem dL_build_330 : decode cL_build 330 = .ok (.bipush 7, 2) := by decide +kernel
theorem dL_build_332 : decode cL_build 332 = .ok (.iconst 0, 1) := by decide +kernel
theorem dL_build_333 : decode cL_build 333 = .ok (.iastore, 1) := by decide +kernel
theorem dL_build_334 : decode cL_build 334 = .ok (.dup, 1) := by decide +kernel
theorem dL_build_335 : decode cL_build 335 = .ok (.bipush 8, 2) := by decide +kernel
theorem dL_build_337 : decode cL_build 337 = .ok (.iconst 0, 1) := by decide +kernel
theorem dL_build_338 : decode cL_build 338 = .ok (.iastore, 1) := by decide +kernel
theorem dL_build_339 : decode cL_build 339 = .ok (.astore 9, 2) := by decide +kernel
theorem dL_build_341 : decode cL_build 341 = .ok (.aload_n 0, 1) := by decide +kernel
theorem dL_build_342 : decode cL_build 342 = .ok (.iload 5, 2) := by decide +kernel
theorem dL_build_344 : decode cL_build 344 = .ok (.aload 9, 2) := by decide +kernel
theorem dL_build_346 : decode cL_build 346 = .ok (.iconst 0, 1) := by decide +kernel
theorem dL_build_347 : decode cL_build 347 = .ok (.iaload, 1) := by decide +kernel
theorem dL_build_348 : decode cL_build 348 = .ok (.aload 9, 2) := by decide +kernel
theorem dL_build_350 : decode cL_build 350 = .ok (.iconst 1, 1) := by decide +kernel
theorem dL_build_351 : decode cL_build 351 = .ok (.iaload, 1) := by decide +kernel
theorem dL_build_352 : decode cL_build 352 = .ok (.aload 9, 2) := by decide +kernel
theorem dL_build_354 : decode cL_build 354 = .ok (.iconst 2, 1) := by decide +kernel
theorem dL_build_355 : decode cL_build 355 = .ok (.iaload, 1) := by decide +kernel
theorem dL_build_356 : decode cL_build 356 = .ok (.invokevirtual 45, 3) := by decide +kernel
theorem dL_build_359 : decode cL_build 359 = .ok (.iload 7, 2) := by decide +kernel
theorem dL_build_361 : decode cL_build 361 = .ok (.if_icmp .eq 5, 3) := by decide +kernel
theorem dL_build_364 : decode cL_build 364 = .ok (.aconst_null, 1) := by decide +kernel
theorem dL_build_365 : decode cL_build 365 = .ok (.areturn, 1) := by decide +kernel
theorem dL_build_366 : decode cL_build 366 = .ok (.iload 4, 2) := by decide +kernel
theorem dL_build_368 : decode cL_build 368 = .ok (.ifCond .le 78, 3) := by decide +kernel
theorem dL_build_371 : decode cL_build 371 = .ok (.iload 8, 2) := by decide +kernel
theorem dL_build_373 : decode cL_build 373 = .ok (.iconst 3, 1) := by decide +kernel
theorem dL_build_374 : decode cL_build 374 = .ok (.ishr, 1) := by decide +kernel
theorem dL_build_375 : decode cL_build 375 = .ok (.iconst 2, 1) := by decide +kernel
theorem dL_build_376 : decode cL_build 376 = .ok (.invokestatic 18, 3) := by decide +kernel
theorem dL_build_379 : decode cL_build 379 = .ok (.ifCond .ne 67, 3) := by decide +kernel
theorem dL_build_382 : decode cL_build 382 = .ok (.aload 9, 2) := by decide +kernel
theorem dL_build_384 : decode cL_build 384 = .ok (.iconst 3, 1) := by decide +kernel
theorem dL_build_385 : decode cL_build 385 = .ok (.iload 8, 2) := by decide +kernel
theorem dL_build_387 : decode cL_build 387 = .ok (.iconst 5, 1) := by decide +kernel
theorem dL_build_388 : decode cL_build 388 = .ok (.ishr, 1) := by decide +kernel
theorem dL_build_389 : decode cL_build 389 = .ok (.iconst 5, 1) := by decide +kernel
theorem dL_build_390 : decode cL_build 390 = .ok (.invokestatic 18, 3) := by decide +kernel
theorem dL_build_393 : decode cL_build 393 = .ok (.iastore, 1) := by decide +kernel
theorem dL_build_394 : decode cL_build 394 = .ok (.aload 9, 2) := by decide +kernel
theorem dL_build_396 : decode cL_build 396 = .ok (.iconst 4, 1) := by decide +kernel
theorem dL_build_397 : decode cL_build 397 = .ok (.iload 8, 2) := by decide +kernel
theorem dL_build_399 : decode cL_build 399 = .ok (.bipush 7, 2) := by decide +kernel
theorem dL_build_401 : decode cL_build 401 = .ok (.ishr, 1) := by decide +kernel
theorem dL_build_402 : decode cL_build 402 = .ok (.iload 4, 2) := by decide +kernel
theorem dL_build_404 : decode cL_build 404 = .ok (.invokestatic 18, 3) := by decide +kernel
theorem dL_build_407 : decode cL_build 407 = .ok (.iastore, 1) := by decide +kernel
theorem dL_build_408 : decode cL_build 408 = .ok (.aload 9, 2) := by decide +kernel
theorem dL_build_410 : decode cL_build 410 = .ok (.iconst 5, 1) := by decide +kernel
theorem dL_build_411 : decode cL_build 411 = .ok (.iload 8, 2) := by decide +kernel
theorem dL_build_413 : decode cL_build 413 = .ok (.bipush 8, 2) := by decide +kernel
theorem dL_build_415 : decode cL_build 415 = .ok (.ishr, 1) := by decide +kernel
theorem dL_build_416 : decode cL_build 416 = .ok (.iconst 4, 1) := by decide +kernel
theorem dL_build_417 : decode cL_build 417 = .ok (.invokestatic 18, 3) := by decide +kernel
theorem dL_build_420 : decode cL_build 420 = .ok (.iastore, 1) := by decide +kernel
theorem dL_build_421 : decode cL_build 421 = .ok (.aload_n 0, 1) := by decide +kernel
theorem dL_build_422 : decode cL_build 422 = .ok (.iload 5, 2) := by decide +kernel
theorem dL_build_424 : decode cL_build 424 = .ok (.iload 7, 2) := by decide +kernel
theorem dL_build_426 : decode cL_build 426 = .ok (.aload 9, 2) := by decide +kernel
theorem dL_build_428 : decode cL_build 428 = .ok (.iconst 3, 1) := by decide +kernel
theorem dL_build_429 : decode cL_build 429 = .ok (.iaload, 1) := by decide +kernel
theorem dL_build_430 : decode cL_build 430 = .ok (.aload 9, 2) := by decide +kernel
theorem dL_build_432 : decode cL_build 432 = .ok (.iconst 4, 1) := by decide +kernel
theorem dL_build_433 : decode cL_build 433 = .ok (.iaload, 1) := by decide +kernel
theorem dL_build_434 : decode cL_build 434 = .ok (.aload 9, 2) := by decide +kernel
theorem dL_build_436 : decode cL_build 436 = .ok (.iconst 5, 1) := by decide +kernel
theorem dL_build_437 : decode cL_build 437 = .ok (.iaload, 1) := by decide +kernel
theorem dL_build_438 : decode cL_build 438 = .ok (.invokevirtual 49, 3) := by decide +kernel
theorem dL_build_441 : decode cL_build 441 = .ok (.ifCond .eq 5, 3) := by decide +kernel
theorem dL_build_444 : decode cL_build 444 = .ok (.aconst_null, 1) := by decide +kernel
theorem dL_build_445 : decode cL_build 445 = .ok (.areturn, 1) := by decide +kernel
theorem dL_build_446 : decode cL_build 446 = .ok (.iload 4, 2) := by decide +kernel
theorem dL_build_448 : decode cL_build 448 = .ok (.ifCond .le 88, 3) := by decide +kernel
theorem dL_build_451 : decode cL_build 451 = .ok (.iload 8, 2) := by decide +kernel
theorem dL_build_453 : decode cL_build 453 = .ok (.bipush 6, 2) := by decide +kernel
theorem dL_build_455 : decode cL_build 455 = .ok (.ishr, 1) := by decide +kernel
theorem dL_build_456 : decode cL_build 456 = .ok (.iconst 2, 1) := by decide +kernel
theorem dL_build_457 : decode cL_build 457 = .ok (.invokestatic 18, 3) := by decide +kernel
theorem dL_build_460 : decode cL_build 460 = .ok (.ifCond .ne 76, 3) := by decide +kernel
theorem dL_build_463 : decode cL_build 463 = .ok (.aload 9, 2) := by decide +kernel
theorem dL_build_465 : decode cL_build 465 = .ok (.bipush 6, 2) := by decide +kernel
theorem dL_build_467 : decode cL_build 467 = .ok (.iload 8, 2) := by decide +kernel
theorem dL_build_469 : decode cL_build 469 = .ok (.bipush 8, 2) := by decide +kernel
theorem dL_build_471 : decode cL_build 471 = .ok (.ishr, 1) := by decide +kernel
theorem dL_build_472 : decode cL_build 472 = .ok (.iconst 3, 1) := by decide +kernel
theorem dL_build_473 : decode cL_build 473 = .ok (.invokestatic 18, 3) := by decide +kernel
theorem dL_build_476 : decode cL_build 476 = .ok (.iastore, 1) := by decide +kernel
theorem dL_build_477 : decode cL_build 477 = .ok (.aload 9, 2) := by decide +kernel
theorem dL_build_479 : decode cL_build 479 = .ok (.bipush 7, 2) := by decide +kernel
theorem dL_build_481 : decode cL_build 481 = .ok (.iload 8, 2) := by decide +kernel
theorem dL_build_483 : decode cL_build 483 = .ok (.bipush 9, 2) := by decide +kernel
theorem dL_build_485 : decode cL_build 485 = .ok (.ishr, 1) := by decide +kernel
theorem dL_build_486 : decode cL_build 486 = .ok (.iload 4, 2) := by decide +kernel
theorem dL_build_488 : decode cL_build 488 = .ok (.invokestatic 18, 3) := by decide +kernel
theorem dL_build_491 : decode cL_build 491 = .ok (.iastore, 1) := by decide +kernel
theorem dL_build_492 : decode cL_build 492 = .ok (.aload 9, 2) := by decide +kernel
theorem dL_build_494 : decode cL_build 494 = .ok (.bipush 8, 2) := by decide +kernel
theorem dL_build_496 : decode cL_build 496 = .ok (.iload 8, 2) := by decide +kernel
theorem dL_build_498 : decode cL_build 498 = .ok (.bipush 7, 2) := by decide +kernel
theorem dL_build_500 : decode cL_build 500 = .ok (.ishr, 1) := by decide +kernel
theorem dL_build_501 : decode cL_build 501 = .ok (.iconst 4, 1) := by decide +kernel
theorem dL_build_502 : decode cL_build 502 = .ok (.invokestatic 18, 3) := by decide +kernel
theorem dL_build_505 : decode cL_build 505 = .ok (.iconst 1, 1) := by decide +kernel
theorem dL_build_506 : decode cL_build 506 = .ok (.isub, 1) := by decide +kernel
theorem dL_build_507 : decode cL_build 507 = .ok (.iastore, 1) := by decide +kernel
theorem dL_build_508 : decode cL_build 508 = .ok (.aload_n 0, 1) := by decide +kernel
theorem dL_build_509 : decode cL_build 509 = .ok (.iload 5, 2) := by decide +kernel
theorem dL_build_511 : decode cL_build 511 = .ok (.iload 7, 2) := by decide +kernel
theorem dL_build_513 : decode cL_build 513 = .ok (.aload 9, 2) := by decide +kernel
theorem dL_build_515 : decode cL_build 515 = .ok (.bipush 6, 2) := by decide +kernel
theorem dL_build_517 : decode cL_build 517 = .ok (.iaload, 1) := by decide +kernel
theorem dL_build_518 : decode cL_build 518 = .ok (.aload 9, 2) := by decide +kernel
theorem dL_build_520 : decode cL_build 520 = .ok (.bipush 7, 2) := by decide +kernel
theorem dL_build_522 : decode cL_build 522 = .ok (.iaload, 1) := by decide +kernel
theorem dL_build_523 : decode cL_build 523 = .ok (.aload 9, 2) := by decide +kernel
theorem dL_build_525 : decode cL_build 525 = .ok (.bipush 8, 2) := by decide +kernel
theorem dL_build_527 : decode cL_build 527 = .ok (.iaload, 1) := by decide +kernel
theorem dL_build_528 : decode cL_build 528 = .ok (.invokevirtual 53, 3) := by decide +kernel
theorem dL_build_531 : decode cL_build 531 = .ok (.ifCond .eq 5, 3) := by decide +kernel
theorem dL_build_534 : decode cL_build 534 = .ok (.aconst_null, 1) := by decide +kernel
theorem dL_build_535 : decode cL_build 535 = .ok (.areturn, 1) := by decide +kernel
theorem dL_build_536 : decode cL_build 536 = .ok (.aload_n 2, 1) := by decide +kernel
theorem dL_build_537 : decode cL_build 537 = .ok (.getfield 56, 3) := by decide +kernel
theorem dL_build_540 : decode cL_build 540 = .ok (.iload 5, 2) := by decide +kernel
theorem dL_build_542 : decode cL_build 542 = .ok (.aload_n 2, 1) := by decide +kernel
theorem dL_build_543 : decode cL_build 543 = .ok (.getfield 56, 3) := by decide +kernel
theorem dL_build_546 : decode cL_build 546 = .ok (.iload 5, 2) := by decide +kernel
theorem dL_build_548 : decode cL_build 548 = .ok (.aaload, 1) := by decide +kernel
theorem dL_build_549 : decode cL_build 549 = .ok (.aload 9, 2) := by decide +kernel
theorem dL_build_551 : decode cL_build 551 = .ok (.invokestatic 60, 3) := by decide +kernel
theorem dL_build_554 : decode cL_build 554 = .ok (.aastore, 1) := by decide +kernel
theorem dL_build_555 : decode cL_build 555 = .ok (.iinc 7 1, 3) := by decide +kernel
theorem dL_build_558 : decode cL_build 558 = .ok (.goto (-339), 3) := by decide +kernel
theorem dL_build_561 : decode cL_build 561 = .ok (.iinc 5 1, 3) := by decide +kernel
theorem dL_build_564 : decode cL_build 564 = .ok (.goto (-373), 3) := by decide +kernel
theorem dL_build_567 : decode cL_build 567 = .ok (.aload_n 2, 1) := by decide +kernel
theorem dL_build_568 : decode cL_build 568 = .ok (.areturn, 1) := by decide +kernel
theorem dL_facts_0 : decode cL_facts 0 = .ok (.aload_n 1, 1) := by decide +kernel
theorem dL_facts_1 : decode cL_facts 1 = .ok (.getfield 63, 3) := by decide +kernel
theorem dL_facts_4 : decode cL_facts 4 = .ok (.arraylength, 1) := by decide +kernel
theorem dL_facts_5 : decode cL_facts 5 = .ok (.istore 4, 2) := by decide +kernel
theorem dL_facts_7 : decode cL_facts 7 = .ok (.bipush 8, 2) := by decide +kernel
theorem dL_facts_9 : decode cL_facts 9 = .ok (.iload 4, 2) := by decide +kernel
theorem dL_facts_11 : decode cL_facts 11 = .ok (.multianewarray 67 2, 4) := by decide +kernel
theorem dL_facts_15 : decode cL_facts 15 = .ok (.astore 5, 2) := by decide +kernel
theorem dL_facts_17 : decode cL_facts 17 = .ok (.iconst 0, 1) := by decide +kernel
theorem dL_facts_18 : decode cL_facts 18 = .ok (.istore 6, 2) := by decide +kernel
theorem dL_facts_20 : decode cL_facts 20 = .ok (.iload 6, 2) := by decide +kernel
theorem dL_facts_22 : decode cL_facts 22 = .ok (.bipush 8, 2) := by decide +kernel
theorem dL_facts_24 : decode cL_facts 24 = .ok (.if_icmp .ge 422, 3) := by decide +kernel
theorem dL_facts_27 : decode cL_facts 27 = .ok (.aload_n 2, 1) := by decide +kernel
theorem dL_facts_28 : decode cL_facts 28 = .ok (.iload_n 3, 1) := by decide +kernel
theorem dL_facts_29 : decode cL_facts 29 = .ok (.iload 6, 2) := by decide +kernel
theorem dL_facts_31 : decode cL_facts 31 = .ok (.iadd, 1) := by decide +kernel
theorem dL_facts_32 : decode cL_facts 32 = .ok (.invokestatic 12, 3) := by decide +kernel
theorem dL_facts_35 : decode cL_facts 35 = .ok (.istore 7, 2) := by decide +kernel
theorem dL_facts_37 : decode cL_facts 37 = .ok (.iload 6, 2) := by decide +kernel
theorem dL_facts_39 : decode cL_facts 39 = .ok (.ifCond .eq 17, 3) := by decide +kernel
theorem dL_facts_42 : decode cL_facts 42 = .ok (.aload_n 1, 1) := by decide +kernel
theorem dL_facts_43 : decode cL_facts 43 = .ok (.getfield 36, 3) := by decide +kernel
theorem dL_facts_46 : decode cL_facts 46 = .ok (.arraylength, 1) := by decide +kernel
theorem dL_facts_47 : decode cL_facts 47 = .ok (.ifCond .ne 13, 3) := by decide +kernel
theorem dL_facts_50 : decode cL_facts 50 = .ok (.iload 6, 2) := by decide +kernel
theorem dL_facts_52 : decode cL_facts 52 = .ok (.iconst 3, 1) := by decide +kernel
theorem dL_facts_53 : decode cL_facts 53 = .ok (.if_icmp .ge 7, 3) := by decide +kernel
theorem dL_facts_56 : decode cL_facts 56 = .ok (.iconst 0, 1) := by decide +kernel
theorem dL_facts_57 : decode cL_facts 57 = .ok (.goto 25, 3) := by decide +kernel
theorem dL_facts_60 : decode cL_facts 60 = .ok (.iload 6, 2) := by decide +kernel
theorem dL_facts_62 : decode cL_facts 62 = .ok (.iconst 3, 1) := by decide +kernel
theorem dL_facts_63 : decode cL_facts 63 = .ok (.if_icmp .ge 12, 3) := by decide +kernel
theorem dL_facts_66 : decode cL_facts 66 = .ok (.iload 7, 2) := by decide +kernel
theorem dL_facts_68 : decode cL_facts 68 = .ok (.iconst 3, 1) := by decide +kernel
theorem dL_facts_69 : decode cL_facts 69 = .ok (.invokestatic 18, 3) := by decide +kernel
theorem dL_facts_72 : decode cL_facts 72 = .ok (.goto 10, 3) := by decide +kernel
theorem dL_facts_75 : decode cL_facts 75 = .ok (.iload 7, 2) := by decide +kernel
theorem dL_facts_77 : decode cL_facts 77 = .ok (.bipush 6, 2) := by decide +kernel
theorem dL_facts_79 : decode cL_facts 79 = .ok (.invokestatic 18, 3) := by decide +kernel
theorem dL_facts_82 : decode cL_facts 82 = .ok (.istore 8, 2) := by decide +kernel
theorem dL_facts_84 : decode cL_facts 84 = .ok (.aload_n 1, 1) := by decide +kernel
theorem dL_facts_85 : decode cL_facts 85 = .ok (.getfield 36, 3) := by decide +kernel
theorem dL_facts_88 : decode cL_facts 88 = .ok (.arraylength, 1) := by decide +kernel
theorem dL_facts_89 : decode cL_facts 89 = .ok (.ifCond .ne 18, 3) := by decide +kernel
theorem dL_facts_92 : decode cL_facts 92 = .ok (.iload 8, 2) := by decide +kernel
theorem dL_facts_94 : decode cL_facts 94 = .ok (.iconst 1, 1) := by decide +kernel
theorem dL_facts_95 : decode cL_facts 95 = .ok (.if_icmp .eq 9, 3) := by decide +kernel
theorem dL_facts_98 : decode cL_facts 98 = .ok (.iload 8, 2) := by decide +kernel
theorem dL_facts_100 : decode cL_facts 100 = .ok (.iconst 2, 1) := by decide +kernel
theorem dL_facts_101 : decode cL_facts 101 = .ok (.if_icmp .ne 6, 3) := by decide +kernel
theorem dL_facts_104 : decode cL_facts 104 = .ok (.iconst 0, 1) := by decide +kernel
theorem dL_facts_105 : decode cL_facts 105 = .ok (.istore 8, 2) := by decide +kernel
theorem dL_facts_107 : decode cL_facts 107 = .ok (.iload 8, 2) := by decide +kernel
theorem dL_facts_109 : decode cL_facts 109 = .ok (.ifCond .ne 18, 3) := by decide +kernel
theorem dL_facts_112 : decode cL_facts 112 = .ok (.iload 7, 2) := by decide +kernel
theorem dL_facts_114 : decode cL_facts 114 = .ok (.iconst 3, 1) := by decide +kernel
theorem dL_facts_115 : decode cL_facts 115 = .ok (.ishr, 1) := by decide +kernel
theorem dL_facts_116 : decode cL_facts 116 = .ok (.aload_n 1, 1) := by decide +kernel
theorem dL_facts_117 : decode cL_facts 117 = .ok (.getfield 22, 3) := by decide +kernel
theorem dL_facts_120 : decode cL_facts 120 = .ok (.arraylength, 1) := by decide +kernel
theorem dL_facts_121 : decode cL_facts 121 = .ok (.invokestatic 18, 3) := by decide +kernel
theorem dL_facts_124 : decode cL_facts 124 = .ok (.goto 33, 3) := by decide +kernel
theorem dL_facts_127 : decode cL_facts 127 = .ok (.iload 8, 2) := by decide +kernel
theorem dL_facts_129 : decode cL_facts 129 = .ok (.iconst 3, 1) := by decide +kernel
theorem dL_facts_130 : decode cL_facts 130 = .ok (.if_icmp .ge 18, 3) := by decide +kernel
theorem dL_facts_133 : decode cL_facts 133 = .ok (.iload 7, 2) := by decide +kernel
theorem dL_facts_135 : decode cL_facts 135 = .ok (.iconst 3, 1) := by decide +kernel
theorem dL_facts_136 : decode cL_facts 136 = .ok (.ishr, 1) := by decide +kernel
theorem dL_facts_137 : decode cL_facts 137 = .ok (.aload_n 1, 1) := by decide +kernel
theorem dL_facts_138 : decode cL_facts 138 = .ok (.getfield 36, 3) := by decide +kernel
theorem dL_facts_141 : decode cL_facts 141 = .ok (.arraylength, 1) := by decide +kernel
theorem dL_facts_142 : decode cL_facts 142 = .ok (.invokestatic 18, 3) := by decide +kernel
theorem dL_facts_145 : decode cL_facts 145 = .ok (.goto 12, 3) := by decide +kernel
theorem dL_facts_148 : decode cL_facts 148 = .ok (.iload 7, 2) := by decide +kernel
theorem dL_facts_150 : decode cL_facts 150 = .ok (.iconst 3, 1) := by decide +kernel
theorem dL_facts_151 : decode cL_facts 151 = .ok (.ishr, 1) := by decide +kernel
theorem dL_facts_152 : decode cL_facts 152 = .ok (.iload 6, 2) := by decide +kernel
theorem dL_facts_154 : decode cL_facts 154 = .ok (.invokestatic 18, 3) := by decide +kernel
theorem dL_facts_157 : decode cL_facts 157 = .ok (.istore 9, 2) := by decide +kernel
theorem dL_facts_159 : decode cL_facts 159 = .ok (.iload 8, 2) := by decide +kernel
theorem dL_facts_161 : decode cL_facts 161 = .ok (.ifCond .ne 20, 3) := by decide +kernel
theorem dL_facts_164 : decode cL_facts 164 = .ok (.iload 7, 2) := by decide +kernel
theorem dL_facts_166 : decode cL_facts 166 = .ok (.iconst 5, 1) := by decide +kernel
theorem dL_facts_167 : decode cL_facts 167 = .ok (.ishr, 1) := by decide +kernel
theorem dL_facts_168 : decode cL_facts 168 = .ok (.aload_n 1, 1) := by decide +kernel
theorem dL_facts_169 : decode cL_facts 169 = .ok (.getfield 22, 3) := by decide +kernel
theorem dL_facts_172 : decode cL_facts 172 = .ok (.iload 9, 2) := by decide +kernel
theorem dL_facts_174 : decode cL_facts 174 = .ok (.iaload, 1) := by decide +kernel
theorem dL_facts_175 : decode cL_facts 175 = .ok (.invokestatic 18, 3) := by decide +kernel
theorem dL_facts_178 : decode cL_facts 178 = .ok (.goto 39, 3) := by decide +kernel
theorem dL_facts_181 : decode cL_facts 181 = .ok (.iload 8, 2) := by decide +kernel
theorem dL_facts_183 : decode cL_facts 183 = .ok (.iconst 3, 1) := by decide +kernel
theorem dL_facts_184 : decode cL_facts 184 = .ok (.if_icmp .ge 14, 3) := by decide +kernel
theorem dL_facts_187 : decode cL_facts 187 = .ok (.iload 7, 2) := by decide +kernel
theorem dL_facts_189 : decode cL_facts 189 = .ok (.iconst 5, 1) := by decide +kernel
theorem dL_facts_190 : decode cL_facts 190 = .ok (.ishr, 1) := by decide +kernel
theorem dL_facts_191 : decode cL_facts 191 = .ok (.iconst 4, 1) := by decide +kernel
theorem dL_facts_192 : decode cL_facts 192 = .ok (.invokestatic 18, 3) := by decide +kernel
theorem dL_facts_195 : decode cL_facts 195 = .ok (.goto 22, 3) := by decide +kernel
theorem dL_facts_198 : decode cL_facts 198 = .ok (.iload 8, 2) := by decide +kernel
theorem dL_facts_200 : decode cL_facts 200 = .ok (.iconst 3, 1) := by decide +kernel
theorem dL_facts_201 : decode cL_facts 201 = .ok (.if_icmp .ne 7, 3) := by decide +kernel
theorem dL_facts_204 : decode cL_facts 204 = .ok (.iconst 0, 1) := by decide +kernel
theorem dL_facts_205 : decode cL_facts 205 = .ok (.goto 12, 3) := by decide +kernel
theorem dL_facts_208 : decode cL_facts 208 = .ok (.iload 7, 2) := by decide +kernel
theorem dL_facts_210 : decode cL_facts 210 = .ok (.iconst 5, 1) := by decide +kernel
theorem dL_facts_211 : decode cL_facts 211 = .ok (.ishr, 1) := by decide +kernel
theorem dL_facts_212 : decode cL_facts 212 = .ok (.iload 6, 2) := by decide +kernel
theorem dL_facts_214 : decode cL_facts 214 = .ok (.invokestatic 18, 3) := by decide +kernel
theorem dL_facts_217 : decode cL_facts 217 = .ok (.istore 10, 2) := by decide +kernel
theorem dL_facts_219 : decode cL_facts 219 = .ok (.aload_n 0, 1) := by decide +kernel
theorem dL_facts_220 : decode cL_facts 220 = .ok (.iload 8, 2) := by decide +kernel
theorem dL_facts_222 : decode cL_facts 222 = .ok (.iload 9, 2) := by decide +kernel
theorem dL_facts_224 : decode cL_facts 224 = .ok (.iload 10, 2) := by decide +kernel
theorem dL_facts_226 : decode cL_facts 226 = .ok (.invokevirtual 69, 3) := by decide +kernel
theorem dL_facts_229 : decode cL_facts 229 = .ok (.iload 6, 2) := by decide +kernel
theorem dL_facts_231 : decode cL_facts 231 = .ok (.if_icmp .eq 5, 3) := by decide +kernel
theorem dL_facts_234 : decode cL_facts 234 = .ok (.aconst_null, 1) := by decide +kernel
theorem dL_facts_235 : decode cL_facts 235 = .ok (.areturn, 1) := by decide +kernel
theorem dL_facts_236 : decode cL_facts 236 = .ok (.iconst 0, 1) := by decide +kernel
theorem dL_facts_237 : decode cL_facts 237 = .ok (.istore 11, 2) := by decide +kernel
theorem dL_facts_239 : decode cL_facts 239 = .ok (.iload 11, 2) := by decide +kernel
theorem dL_facts_241 : decode cL_facts 241 = .ok (.iload 4, 2) := by decide +kernel
theorem dL_facts_243 : decode cL_facts 243 = .ok (.if_icmp .ge 197, 3) := by decide +kernel
theorem dL_facts_246 : decode cL_facts 246 = .ok (.aload_n 1, 1) := by decide +kernel
theorem dL_facts_247 : decode cL_facts 247 = .ok (.getfield 63, 3) := by decide +kernel
theorem dL_facts_250 : decode cL_facts 250 = .ok (.iload 11, 2) := by decide +kernel
theorem dL_facts_252 : decode cL_facts 252 = .ok (.aaload, 1) := by decide +kernel
theorem dL_facts_253 : decode cL_facts 253 = .ok (.astore 12, 2) := by decide +kernel
theorem dL_facts_255 : decode cL_facts 255 = .ok (.aload 5, 2) := by decide +kernel
theorem dL_facts_257 : decode cL_facts 257 = .ok (.iload 6, 2) := by decide +kernel
theorem dL_facts_259 : decode cL_facts 259 = .ok (.aaload, 1) := by decide +kernel
theorem dL_facts_260 : decode cL_facts 260 = .ok (.iload 11, 2) := by decide +kernel
theorem dL_facts_262 : decode cL_facts 262 = .ok (.iload 8, 2) := by decide +kernel
theorem dL_facts_264 : decode cL_facts 264 = .ok (.ifCond .ne 21, 3) := by decide +kernel
theorem dL_facts_267 : decode cL_facts 267 = .ok (.aload 12, 2) := by decide +kernel
theorem dL_facts_269 : decode cL_facts 269 = .ok (.iload 9, 2) := by decide +kernel
theorem dL_facts_271 : decode cL_facts 271 = .ok (.iaload, 1) := by decide +kernel
theorem dL_facts_272 : decode cL_facts 272 = .ok (.iload 10, 2) := by decide +kernel
theorem dL_facts_274 : decode cL_facts 274 = .ok (.if_icmp .ne 7, 3) := by decide +kernel
theorem dL_facts_277 : decode cL_facts 277 = .ok (.iconst 1, 1) := by decide +kernel
theorem dL_facts_278 : decode cL_facts 278 = .ok (.goto 155, 3) := by decide +kernel
theorem dL_facts_281 : decode cL_facts 281 = .ok (.iconst 0, 1) := by decide +kernel
theorem dL_facts_282 : decode cL_facts 282 = .ok (.goto 151, 3) := by decide +kernel
theorem dL_facts_285 : decode cL_facts 285 = .ok (.iload 8, 2) := by decide +kernel
theorem dL_facts_287 : decode cL_facts 287 = .ok (.iconst 1, 1) := by decide +kernel
theorem dL_facts_288 : decode cL_facts 288 = .ok (.if_icmp .ne 27, 3) := by decide +kernel
theorem dL_facts_291 : decode cL_facts 291 = .ok (.aload 12, 2) := by decide +kernel
theorem dL_facts_293 : decode cL_facts 293 = .ok (.aload_n 1, 1) := by decide +kernel
theorem dL_facts_294 : decode cL_facts 294 = .ok (.getfield 22, 3) := by decide +kernel
theorem dL_facts_297 : decode cL_facts 297 = .ok (.arraylength, 1) := by decide +kernel
theorem dL_facts_298 : decode cL_facts 298 = .ok (.iload 9, 2) := by decide +kernel
theorem dL_facts_300 : decode cL_facts 300 = .ok (.iadd, 1) := by decide +kernel
theorem dL_facts_301 : decode cL_facts 301 = .ok (.iaload, 1) := by decide +kernel
theorem dL_facts_302 : decode cL_facts 302 = .ok (.iload 10, 2) := by decide +kernel
theorem dL_facts_304 : decode cL_facts 304 = .ok (.if_icmp .ne 7, 3) := by decide +kernel
theorem dL_facts_307 : decode cL_facts 307 = .ok (.iconst 1, 1) := by decide +kernel
theorem dL_facts_308 : decode cL_facts 308 = .ok (.goto 125, 3) := by decide +kernel
theorem dL_facts_311 : decode cL_facts 311 = .ok (.iconst 0, 1) := by decide +kernel
theorem dL_facts_312 : decode cL_facts 312 = .ok (.goto 121, 3) := by decide +kernel
theorem dL_facts_315 : decode cL_facts 315 = .ok (.iload 8, 2) := by decide +kernel
theorem dL_facts_317 : decode cL_facts 317 = .ok (.iconst 2, 1) := by decide +kernel
theorem dL_facts_318 : decode cL_facts 318 = .ok (.if_icmp .ne 27, 3) := by decide +kernel
theorem dL_facts_321 : decode cL_facts 321 = .ok (.aload 12, 2) := by decide +kernel
theorem dL_facts_323 : decode cL_facts 323 = .ok (.aload_n 1, 1) := by decide +kernel
theorem dL_facts_324 : decode cL_facts 324 = .ok (.getfield 22, 3) := by decide +kernel
theorem dL_facts_327 : decode cL_facts 327 = .ok (.arraylength, 1) := by decide +kernel
theorem dL_facts_328 : decode cL_facts 328 = .ok (.iload 9, 2) := by decide +kernel
theorem dL_facts_330 : decode cL_facts 330 = .ok (.iadd, 1) := by decide +kernel
theorem dL_facts_331 : decode cL_facts 331 = .ok (.iaload, 1) := by decide +kernel
theorem dL_facts_332 : decode cL_facts 332 = .ok (.iload 10, 2) := by decide +kernel
theorem dL_facts_334 : decode cL_facts 334 = .ok (.if_icmp .gt 7, 3) := by decide +kernel
theorem dL_facts_337 : decode cL_facts 337 = .ok (.iconst 1, 1) := by decide +kernel
theorem dL_facts_338 : decode cL_facts 338 = .ok (.goto 95, 3) := by decide +kernel
theorem dL_facts_341 : decode cL_facts 341 = .ok (.iconst 0, 1) := by decide +kernel
theorem dL_facts_342 : decode cL_facts 342 = .ok (.goto 91, 3) := by decide +kernel
theorem dL_facts_345 : decode cL_facts 345 = .ok (.iload 8, 2) := by decide +kernel
theorem dL_facts_347 : decode cL_facts 347 = .ok (.iconst 3, 1) := by decide +kernel
theorem dL_facts_348 : decode cL_facts 348 = .ok (.if_icmp .ne 22, 3) := by decide +kernel
theorem dL_facts_351 : decode cL_facts 351 = .ok (.aload 5, 2) := by decide +kernel
theorem dL_facts_353 : decode cL_facts 353 = .ok (.iload 9, 2) := by decide +kernel
theorem dL_facts_355 : decode cL_facts 355 = .ok (.aaload, 1) := by decide +kernel
theorem dL_facts_356 : decode cL_facts 356 = .ok (.iload 11, 2) := by decide +kernel
theorem dL_facts_358 : decode cL_facts 358 = .ok (.baload, 1) := by decide +kernel
theorem dL_facts_359 : decode cL_facts 359 = .ok (.ifCond .ne 7, 3) := by decide +kernel
theorem dL_facts_362 : decode cL_facts 362 = .ok (.iconst 1, 1) := by decide +kernel
theorem dL_facts_363 : decode cL_facts 363 = .ok (.goto 70, 3) := by decide +kernel
theorem dL_facts_366 : decode cL_facts 366 = .ok (.iconst 0, 1) := by decide +kernel
theorem dL_facts_367 : decode cL_facts 367 = .ok (.goto 66, 3) := by decide +kernel
theorem dL_facts_370 : decode cL_facts 370 = .ok (.iload 8, 2) := by decide +kernel
theorem dL_facts_372 : decode cL_facts 372 = .ok (.iconst 4, 1) := by decide +kernel
theorem dL_facts_373 : decode cL_facts 373 = .ok (.if_icmp .ne 33, 3) := by decide +kernel
theorem dL_facts_376 : decode cL_facts 376 = .ok (.aload 5, 2) := by decide +kernel
theorem dL_facts_378 : decode cL_facts 378 = .ok (.iload 9, 2) := by decide +kernel
theorem dL_facts_380 : decode cL_facts 380 = .ok (.aaload, 1) := by decide +kernel
theorem dL_facts_381 : decode cL_facts 381 = .ok (.iload 11, 2) := by decide +kernel
theorem dL_facts_383 : decode cL_facts 383 = .ok (.baload, 1) := by decide +kernel
theorem dL_facts_384 : decode cL_facts 384 = .ok (.ifCond .eq 18, 3) := by decide +kernel
theorem dL_facts_387 : decode cL_facts 387 = .ok (.aload 5, 2) := by decide +kernel
theorem dL_facts_389 : decode cL_facts 389 = .ok (.iload 10, 2) := by decide +kernel
theorem dL_facts_391 : decode cL_facts 391 = .ok (.aaload, 1) := by decide +kernel
theorem dL_facts_392 : decode cL_facts 392 = .ok (.iload 11, 2) := by decide +kernel
theorem dL_facts_394 : decode cL_facts 394 = .ok (.baload, 1) := by decide +kernel
theorem dL_facts_395 : decode cL_facts 395 = .ok (.ifCond .eq 7, 3) := by decide +kernel
theorem dL_facts_398 : decode cL_facts 398 = .ok (.iconst 1, 1) := by decide +kernel
theorem dL_facts_399 : decode cL_facts 399 = .ok (.goto 34, 3) := by decide +kernel
theorem dL_facts_402 : decode cL_facts 402 = .ok (.iconst 0, 1) := by decide +kernel
theorem dL_facts_403 : decode cL_facts 403 = .ok (.goto 30, 3) := by decide +kernel
theorem dL_facts_406 : decode cL_facts 406 = .ok (.aload 5, 2) := by decide +kernel
theorem dL_facts_408 : decode cL_facts 408 = .ok (.iload 9, 2) := by decide +kernel
theorem dL_facts_410 : decode cL_facts 410 = .ok (.aaload, 1) := by decide +kernel
theorem dL_facts_411 : decode cL_facts 411 = .ok (.iload 11, 2) := by decide +kernel
theorem dL_facts_413 : decode cL_facts 413 = .ok (.baload, 1) := by decide +kernel
theorem dL_facts_414 : decode cL_facts 414 = .ok (.ifCond .ne 14, 3) := by decide +kernel
theorem dL_facts_417 : decode cL_facts 417 = .ok (.aload 5, 2) := by decide +kernel
theorem dL_facts_419 : decode cL_facts 419 = .ok (.iload 10, 2) := by decide +kernel
theorem dL_facts_421 : decode cL_facts 421 = .ok (.aaload, 1) := by decide +kernel
theorem dL_facts_422 : decode cL_facts 422 = .ok (.iload 11, 2) := by decide +kernel
theorem dL_facts_424 : decode cL_facts 424 = .ok (.baload, 1) := by decide +kernel
theorem dL_facts_425 : decode cL_facts 425 = .ok (.ifCond .eq 7, 3) := by decide +kernel
theorem dL_facts_428 : decode cL_facts 428 = .ok (.iconst 1, 1) := by decide +kernel
theorem dL_facts_429 : decode cL_facts 429 = .ok (.goto 4, 3) := by decide +kernel
theorem dL_facts_432 : decode cL_facts 432 = .ok (.iconst 0, 1) := by decide +kernel
theorem dL_facts_433 : decode cL_facts 433 = .ok (.bastore, 1) := by decide +kernel
theorem dL_facts_434 : decode cL_facts 434 = .ok (.iinc 11 1, 3) := by decide +kernel
theorem dL_facts_437 : decode cL_facts 437 = .ok (.goto (-198), 3) := by decide +kernel
theorem dL_facts_440 : decode cL_facts 440 = .ok (.iinc 6 1, 3) := by decide +kernel
theorem dL_facts_443 : decode cL_facts 443 = .ok (.goto (-423), 3) := by decide +kernel
theorem dL_facts_446 : decode cL_facts 446 = .ok (.aload 5, 2) := by decide +kernel
theorem dL_facts_448 : decode cL_facts 448 = .ok (.areturn, 1) := by decide +kernel
theorem dL_law_0 : decode cL_law 0 = .ok (.new 31, 3) := by decide +kernel
theorem dL_law_3 : decode cL_law 3 = .ok (.dup, 1) := by decide +kernel
theorem dL_law_4 : decode cL_law 4 = .ok (.invokespecial 73, 3) := by decide +kernel
theorem dL_law_7 : decode cL_law 7 = .ok (.astore_n 1, 1) := by decide +kernel
theorem dL_law_8 : decode cL_law 8 = .ok (.aload_n 1, 1) := by decide +kernel
theorem dL_law_9 : decode cL_law 9 = .ok (.aload_n 0, 1) := by decide +kernel
theorem dL_law_10 : decode cL_law 10 = .ok (.invokestatic 74, 3) := by decide +kernel
theorem dL_law_13 : decode cL_law 13 = .ok (.astore_n 2, 1) := by decide +kernel
theorem dL_law_14 : decode cL_law 14 = .ok (.aload_n 2, 1) := by decide +kernel
theorem dL_law_15 : decode cL_law 15 = .ok (.ifnonnull 5, 3) := by decide +kernel
theorem dL_law_18 : decode cL_law 18 = .ok (.iconst 0, 1) := by decide +kernel
theorem dL_law_19 : decode cL_law 19 = .ok (.ireturn, 1) := by decide +kernel
theorem dL_law_20 : decode cL_law 20 = .ok (.aload_n 1, 1) := by decide +kernel
theorem dL_law_21 : decode cL_law 21 = .ok (.invokevirtual 78, 3) := by decide +kernel
theorem dL_law_24 : decode cL_law 24 = .ok (.istore_n 3, 1) := by decide +kernel
theorem dL_law_25 : decode cL_law 25 = .ok (.aload_n 2, 1) := by decide +kernel
theorem dL_law_26 : decode cL_law 26 = .ok (.sipush 400, 3) := by decide +kernel
theorem dL_law_29 : decode cL_law 29 = .ok (.invokevirtual 82, 3) := by decide +kernel
theorem dL_law_32 : decode cL_law 32 = .ok (.ifCond .ne 14, 3) := by decide +kernel
theorem dL_law_35 : decode cL_law 35 = .ok (.iload_n 3, 1) := by decide +kernel
theorem dL_law_36 : decode cL_law 36 = .ok (.iconst (-1), 1) := by decide +kernel
theorem dL_law_37 : decode cL_law 37 = .ok (.if_icmp .ne 7, 3) := by decide +kernel
theorem dL_law_40 : decode cL_law 40 = .ok (.iconst 1, 1) := by decide +kernel
theorem dL_law_41 : decode cL_law 41 = .ok (.goto 4, 3) := by decide +kernel
theorem dL_law_44 : decode cL_law 44 = .ok (.iconst 0, 1) := by decide +kernel
theorem dL_law_45 : decode cL_law 45 = .ok (.ireturn, 1) := by decide +kernel
theorem dL_law_46 : decode cL_law 46 = .ok (.aload_n 1, 1) := by decide +kernel
theorem dL_law_47 : decode cL_law 47 = .ok (.aload_n 2, 1) := by decide +kernel
theorem dL_law_48 : decode cL_law 48 = .ok (.aload_n 0, 1) := by decide +kernel
theorem dL_law_49 : decode cL_law 49 = .ok (.bipush 9, 2) := by decide +kernel
theorem dL_law_51 : decode cL_law 51 = .ok (.invokestatic 85, 3) := by decide +kernel
theorem dL_law_54 : decode cL_law 54 = .ok (.astore 4, 2) := by decide +kernel
theorem dL_law_56 : decode cL_law 56 = .ok (.aload 4, 2) := by decide +kernel
theorem dL_law_58 : decode cL_law 58 = .ok (.ifnull 12, 3) := by decide +kernel
theorem dL_law_61 : decode cL_law 61 = .ok (.iload_n 3, 1) := by decide +kernel
theorem dL_law_62 : decode cL_law 62 = .ok (.aload_n 2, 1) := by decide +kernel
theorem dL_law_63 : decode cL_law 63 = .ok (.getfield 63, 3) := by decide +kernel
theorem dL_law_66 : decode cL_law 66 = .ok (.arraylength, 1) := by decide +kernel
theorem dL_law_67 : decode cL_law 67 = .ok (.if_icmp .eq 5, 3) := by decide +kernel
theorem dL_law_70 : decode cL_law 70 = .ok (.iconst 0, 1) := by decide +kernel
theorem dL_law_71 : decode cL_law 71 = .ok (.ireturn, 1) := by decide +kernel
theorem dL_law_72 : decode cL_law 72 = .ok (.iconst 0, 1) := by decide +kernel
theorem dL_law_73 : decode cL_law 73 = .ok (.istore 5, 2) := by decide +kernel
theorem dL_law_75 : decode cL_law 75 = .ok (.iload 5, 2) := by decide +kernel
theorem dL_law_77 : decode cL_law 77 = .ok (.iload_n 3, 1) := by decide +kernel
theorem dL_law_78 : decode cL_law 78 = .ok (.if_icmp .ge 169, 3) := by decide +kernel
theorem dL_law_81 : decode cL_law 81 = .ok (.aload_n 1, 1) := by decide +kernel
theorem dL_law_82 : decode cL_law 82 = .ok (.iload 5, 2) := by decide +kernel
theorem dL_law_84 : decode cL_law 84 = .ok (.bipush 10, 2) := by decide +kernel
theorem dL_law_86 : decode cL_law 86 = .ok (.invokevirtual 89, 3) := by decide +kernel
theorem dL_law_89 : decode cL_law 89 = .ok (.istore 6, 2) := by decide +kernel
theorem dL_law_91 : decode cL_law 91 = .ok (.iconst 0, 1) := by decide +kernel
theorem dL_law_92 : decode cL_law 92 = .ok (.istore 7, 2) := by decide +kernel
theorem dL_law_94 : decode cL_law 94 = .ok (.iconst 0, 1) := by decide +kernel
theorem dL_law_95 : decode cL_law 95 = .ok (.istore 8, 2) := by decide +kernel
theorem dL_law_97 : decode cL_law 97 = .ok (.iload 8, 2) := by decide +kernel
theorem dL_law_99 : decode cL_law 99 = .ok (.iload 6, 2) := by decide +kernel
theorem dL_law_101 : decode cL_law 101 = .ok (.if_icmp .ge 56, 3) := by decide +kernel
theorem dL_law_104 : decode cL_law 104 = .ok (.aload_n 1, 1) := by decide +kernel
theorem dL_law_105 : decode cL_law 105 = .ok (.iload 5, 2) := by decide +kernel
theorem dL_law_107 : decode cL_law 107 = .ok (.iload 8, 2) := by decide +kernel
theorem dL_law_109 : decode cL_law 109 = .ok (.iconst 0, 1) := by decide +kernel
theorem dL_law_110 : decode cL_law 110 = .ok (.invokevirtual 92, 3) := by decide +kernel
theorem dL_law_113 : decode cL_law 113 = .ok (.iload 7, 2) := by decide +kernel
theorem dL_law_115 : decode cL_law 115 = .ok (.if_icmp .ne 16, 3) := by decide +kernel
theorem dL_law_118 : decode cL_law 118 = .ok (.aload_n 1, 1) := by decide +kernel
theorem dL_law_119 : decode cL_law 119 = .ok (.iload 7, 2) := by decide +kernel
theorem dL_law_121 : decode cL_law 121 = .ok (.bipush 10, 2) := by decide +kernel
theorem dL_law_123 : decode cL_law 123 = .ok (.invokevirtual 89, 3) := by decide +kernel
theorem dL_law_126 : decode cL_law 126 = .ok (.iload 8, 2) := by decide +kernel
theorem dL_law_128 : decode cL_law 128 = .ok (.if_icmp .eq 5, 3) := by decide +kernel
theorem dL_law_131 : decode cL_law 131 = .ok (.iconst 0, 1) := by decide +kernel
theorem dL_law_132 : decode cL_law 132 = .ok (.ireturn, 1) := by decide +kernel
theorem dL_law_133 : decode cL_law 133 = .ok (.aload_n 1, 1) := by decide +kernel
theorem dL_law_134 : decode cL_law 134 = .ok (.iload 7, 2) := by decide +kernel
theorem dL_law_136 : decode cL_law 136 = .ok (.aload_n 1, 1) := by decide +kernel
theorem dL_law_137 : decode cL_law 137 = .ok (.iload 5, 2) := by decide +kernel
theorem dL_law_139 : decode cL_law 139 = .ok (.iload 8, 2) := by decide +kernel
theorem dL_law_141 : decode cL_law 141 = .ok (.iconst 1, 1) := by decide +kernel
theorem dL_law_142 : decode cL_law 142 = .ok (.invokevirtual 92, 3) := by decide +kernel
theorem dL_law_145 : decode cL_law 145 = .ok (.iconst 0, 1) := by decide +kernel
theorem dL_law_146 : decode cL_law 146 = .ok (.invokevirtual 95, 3) := by decide +kernel
theorem dL_law_149 : decode cL_law 149 = .ok (.istore 7, 2) := by decide +kernel
theorem dL_law_151 : decode cL_law 151 = .ok (.iinc 8 1, 3) := by decide +kernel
theorem dL_law_154 : decode cL_law 154 = .ok (.goto (-57), 3) := by decide +kernel
theorem dL_law_157 : decode cL_law 157 = .ok (.iload 7, 2) := by decide +kernel
theorem dL_law_159 : decode cL_law 159 = .ok (.iload 5, 2) := by decide +kernel
theorem dL_law_161 : decode cL_law 161 = .ok (.if_icmp .ne 24, 3) := by decide +kernel
theorem dL_law_164 : decode cL_law 164 = .ok (.iload 6, 2) := by decide +kernel
theorem dL_law_166 : decode cL_law 166 = .ok (.sipush 400, 3) := by decide +kernel
theorem dL_law_169 : decode cL_law 169 = .ok (.if_icmp .ge 18, 3) := by decide +kernel
theorem dL_law_172 : decode cL_law 172 = .ok (.aload_n 1, 1) := by decide +kernel
theorem dL_law_173 : decode cL_law 173 = .ok (.iload 5, 2) := by decide +kernel
theorem dL_law_175 : decode cL_law 175 = .ok (.iload 6, 2) := by decide +kernel
theorem dL_law_177 : decode cL_law 177 = .ok (.iconst 0, 1) := by decide +kernel
theorem dL_law_178 : decode cL_law 178 = .ok (.invokevirtual 92, 3) := by decide +kernel
theorem dL_law_181 : decode cL_law 181 = .ok (.iconst (-1), 1) := by decide +kernel
theorem dL_law_182 : decode cL_law 182 = .ok (.if_icmp .eq 5, 3) := by decide +kernel
theorem dL_law_185 : decode cL_law 185 = .ok (.iconst 0, 1) := by decide +kernel
theorem dL_law_186 : decode cL_law 186 = .ok (.ireturn, 1) := by decide +kernel
theorem dL_law_187 : decode cL_law 187 = .ok (.iconst 0, 1) := by decide +kernel
theorem dL_law_188 : decode cL_law 188 = .ok (.istore 8, 2) := by decide +kernel
theorem dL_law_190 : decode cL_law 190 = .ok (.iload 8, 2) := by decide +kernel
theorem dL_law_192 : decode cL_law 192 = .ok (.aload_n 1, 1) := by decide +kernel
theorem dL_law_193 : decode cL_law 193 = .ok (.iload 5, 2) := by decide +kernel
theorem dL_law_195 : decode cL_law 195 = .ok (.bipush 9, 2) := by decide +kernel
theorem dL_law_197 : decode cL_law 197 = .ok (.invokevirtual 89, 3) := by decide +kernel
theorem dL_law_200 : decode cL_law 200 = .ok (.if_icmp .ge 33, 3) := by decide +kernel
theorem dL_law_203 : decode cL_law 203 = .ok (.aload_n 1, 1) := by decide +kernel
theorem dL_law_204 : decode cL_law 204 = .ok (.aload_n 1, 1) := by decide +kernel
theorem dL_law_205 : decode cL_law 205 = .ok (.iload 5, 2) := by decide +kernel
theorem dL_law_207 : decode cL_law 207 = .ok (.iload 8, 2) := by decide +kernel
theorem dL_law_209 : decode cL_law 209 = .ok (.iconst 0, 1) := by decide +kernel
theorem dL_law_210 : decode cL_law 210 = .ok (.invokevirtual 95, 3) := by decide +kernel
theorem dL_law_213 : decode cL_law 213 = .ok (.bipush 10, 2) := by decide +kernel
theorem dL_law_215 : decode cL_law 215 = .ok (.invokevirtual 89, 3) := by decide +kernel
theorem dL_law_218 : decode cL_law 218 = .ok (.iload 6, 2) := by decide +kernel
theorem dL_law_220 : decode cL_law 220 = .ok (.iconst 1, 1) := by decide +kernel
theorem dL_law_221 : decode cL_law 221 = .ok (.iadd, 1) := by decide +kernel
theorem dL_law_222 : decode cL_law 222 = .ok (.if_icmp .le 5, 3) := by decide +kernel
theorem dL_law_225 : decode cL_law 225 = .ok (.iconst 0, 1) := by decide +kernel
theorem dL_law_226 : decode cL_law 226 = .ok (.ireturn, 1) := by decide +kernel
theorem dL_law_227 : decode cL_law 227 = .ok (.iinc 8 1, 3) := by decide +kernel
theorem dL_law_230 : decode cL_law 230 = .ok (.goto (-40), 3) := by decide +kernel
theorem dL_law_233 : decode cL_law 233 = .ok (.iload 5, 2) := by decide +kernel
theorem dL_law_235 : decode cL_law 235 = .ok (.iconst 1, 1) := by decide +kernel
theorem dL_law_236 : decode cL_law 236 = .ok (.iload_n 3, 1) := by decide +kernel
theorem dL_law_237 : decode cL_law 237 = .ok (.bipush 20, 2) := by decide +kernel
theorem dL_law_239 : decode cL_law 239 = .ok (.idiv, 1) := by decide +kernel
theorem dL_law_240 : decode cL_law 240 = .ok (.iadd, 1) := by decide +kernel
theorem dL_law_241 : decode cL_law 241 = .ok (.iadd, 1) := by decide +kernel
theorem dL_law_242 : decode cL_law 242 = .ok (.istore 5, 2) := by decide +kernel
theorem dL_law_244 : decode cL_law 244 = .ok (.goto (-169), 3) := by decide +kernel
theorem dL_law_247 : decode cL_law 247 = .ok (.aload_n 0, 1) := by decide +kernel
theorem dL_law_248 : decode cL_law 248 = .ok (.bipush 6, 2) := by decide +kernel
theorem dL_law_250 : decode cL_law 250 = .ok (.invokestatic 12, 3) := by decide +kernel
theorem dL_law_253 : decode cL_law 253 = .ok (.bipush 8, 2) := by decide +kernel
theorem dL_law_255 : decode cL_law 255 = .ok (.invokestatic 18, 3) := by decide +kernel
theorem dL_law_258 : decode cL_law 258 = .ok (.istore 5, 2) := by decide +kernel
theorem dL_law_260 : decode cL_law 260 = .ok (.aload_n 0, 1) := by decide +kernel
theorem dL_law_261 : decode cL_law 261 = .ok (.bipush 6, 2) := by decide +kernel
theorem dL_law_263 : decode cL_law 263 = .ok (.invokestatic 12, 3) := by decide +kernel
theorem dL_law_266 : decode cL_law 266 = .ok (.iconst 3, 1) := by decide +kernel
theorem dL_law_267 : decode cL_law 267 = .ok (.ishr, 1) := by decide +kernel
theorem dL_law_268 : decode cL_law 268 = .ok (.bipush 8, 2) := by decide +kernel
theorem dL_law_270 : decode cL_law 270 = .ok (.invokestatic 18, 3) := by decide +kernel
theorem dL_law_273 : decode cL_law 273 = .ok (.istore 6, 2) := by decide +kernel
theorem dL_law_275 : decode cL_law 275 = .ok (.aload_n 1, 1) := by decide +kernel
theorem dL_law_276 : decode cL_law 276 = .ok (.iload 6, 2) := by decide +kernel
theorem dL_law_278 : decode cL_law 278 = .ok (.iload 5, 2) := by decide +kernel
theorem dL_law_280 : decode cL_law 280 = .ok (.invokevirtual 98, 3) := by decide +kernel
theorem dL_law_283 : decode cL_law 283 = .ok (.istore 7, 2) := by decide +kernel
theorem dL_law_285 : decode cL_law 285 = .ok (.aload_n 1, 1) := by decide +kernel
theorem dL_law_286 : decode cL_law 286 = .ok (.iload 5, 2) := by decide +kernel
theorem dL_law_288 : decode cL_law 288 = .ok (.iload 5, 2) := by decide +kernel
theorem dL_law_290 : decode cL_law 290 = .ok (.invokevirtual 98, 3) := by decide +kernel
theorem dL_law_293 : decode cL_law 293 = .ok (.iconst (-1), 1) := by decide +kernel
theorem dL_law_294 : decode cL_law 294 = .ok (.if_icmp .ne 41, 3) := by decide +kernel
theorem dL_law_297 : decode cL_law 297 = .ok (.iload 7, 2) := by decide +kernel
theorem dL_law_299 : decode cL_law 299 = .ok (.ifCond .lt 38, 3) := by decide +kernel
theorem dL_law_302 : decode cL_law 302 = .ok (.aload_n 1, 1) := by decide +kernel
theorem dL_law_303 : decode cL_law 303 = .ok (.iload 6, 2) := by decide +kernel
theorem dL_law_305 : decode cL_law 305 = .ok (.iload 7, 2) := by decide +kernel
theorem dL_law_307 : decode cL_law 307 = .ok (.invokevirtual 101, 3) := by decide +kernel
theorem dL_law_310 : decode cL_law 310 = .ok (.ifCond .eq 25, 3) := by decide +kernel
theorem dL_law_313 : decode cL_law 313 = .ok (.aload_n 1, 1) := by decide +kernel
theorem dL_law_314 : decode cL_law 314 = .ok (.iload 5, 2) := by decide +kernel
theorem dL_law_316 : decode cL_law 316 = .ok (.iload 7, 2) := by decide +kernel
theorem dL_law_318 : decode cL_law 318 = .ok (.invokevirtual 101, 3) := by decide +kernel
theorem dL_law_321 : decode cL_law 321 = .ok (.ifCond .ne 14, 3) := by decide +kernel
theorem dL_law_324 : decode cL_law 324 = .ok (.aload_n 1, 1) := by decide +kernel
theorem dL_law_325 : decode cL_law 325 = .ok (.iload 5, 2) := by decide +kernel
theorem dL_law_327 : decode cL_law 327 = .ok (.iload 7, 2) := by decide +kernel
theorem dL_law_329 : decode cL_law 329 = .ok (.invokevirtual 105, 3) := by decide +kernel
theorem dL_law_332 : decode cL_law 332 = .ok (.ifCond .ne 5, 3) := by decide +kernel
theorem dL_law_335 : decode cL_law 335 = .ok (.iconst 0, 1) := by decide +kernel
theorem dL_law_336 : decode cL_law 336 = .ok (.ireturn, 1) := by decide +kernel
theorem dL_law_337 : decode cL_law 337 = .ok (.iload 7, 2) := by decide +kernel
theorem dL_law_339 : decode cL_law 339 = .ok (.ifCond .lt 174, 3) := by decide +kernel
theorem dL_law_342 : decode cL_law 342 = .ok (.iconst 1, 1) := by decide +kernel
theorem dL_law_343 : decode cL_law 343 = .ok (.newarray .int, 2) := by decide +kernel
theorem dL_law_345 : decode cL_law 345 = .ok (.dup, 1) := by decide +kernel
theorem dL_law_346 : decode cL_law 346 = .ok (.iconst 0, 1) := by decide +kernel
theorem dL_law_347 : decode cL_law 347 = .ok (.iload 7, 2) := by decide +kernel
theorem dL_law_349 : decode cL_law 349 = .ok (.iastore, 1) := by decide +kernel
theorem dL_law_350 : decode cL_law 350 = .ok (.astore 8, 2) := by decide +kernel
theorem dL_law_352 : decode cL_law 352 = .ok (.iload_n 3, 1) := by decide +kernel
theorem dL_law_353 : decode cL_law 353 = .ok (.newarray .boolean, 2) := by decide +kernel
theorem dL_law_355 : decode cL_law 355 = .ok (.astore 9, 2) := by decide +kernel
theorem dL_law_357 : decode cL_law 357 = .ok (.aload 9, 2) := by decide +kernel
theorem dL_law_359 : decode cL_law 359 = .ok (.iload 7, 2) := by decide +kernel
theorem dL_law_361 : decode cL_law 361 = .ok (.iconst 1, 1) := by decide +kernel
theorem dL_law_362 : decode cL_law 362 = .ok (.bastore, 1) := by decide +kernel
theorem dL_law_363 : decode cL_law 363 = .ok (.iconst 0, 1) := by decide +kernel
theorem dL_law_364 : decode cL_law 364 = .ok (.istore 10, 2) := by decide +kernel
theorem dL_law_366 : decode cL_law 366 = .ok (.iconst 0, 1) := by decide +kernel
theorem dL_law_367 : decode cL_law 367 = .ok (.istore 11, 2) := by decide +kernel
theorem dL_law_369 : decode cL_law 369 = .ok (.iload 11, 2) := by decide +kernel
theorem dL_law_371 : decode cL_law 371 = .ok (.aload 8, 2) := by decide +kernel
theorem dL_law_373 : decode cL_law 373 = .ok (.arraylength, 1) := by decide +kernel
theorem dL_law_374 : decode cL_law 374 = .ok (.if_icmp .ge 132, 3) := by decide +kernel
theorem dL_law_377 : decode cL_law 377 = .ok (.aload 8, 2) := by decide +kernel
theorem dL_law_379 : decode cL_law 379 = .ok (.iload 11, 2) := by decide +kernel
theorem dL_law_381 : decode cL_law 381 = .ok (.iaload, 1) := by decide +kernel
theorem dL_law_382 : decode cL_law 382 = .ok (.istore 12, 2) := by decide +kernel
theorem dL_law_384 : decode cL_law 384 = .ok (.iload 10, 2) := by decide +kernel
theorem dL_law_386 : decode cL_law 386 = .ok (.ifCond .ne 14, 3) := by decide +kernel
theorem dL_law_389 : decode cL_law 389 = .ok (.aload_n 1, 1) := by decide +kernel
theorem dL_law_390 : decode cL_law 390 = .ok (.iload 12, 2) := by decide +kernel
theorem dL_law_392 : decode cL_law 392 = .ok (.bipush 9, 2) := by decide +kernel
theorem dL_law_394 : decode cL_law 394 = .ok (.invokevirtual 89, 3) := by decide +kernel
theorem dL_law_397 : decode cL_law 397 = .ok (.ifCond .ne 7, 3) := by decide +kernel
theorem dL_law_400 : decode cL_law 400 = .ok (.iconst 1, 1) := by decide +kernel
theorem dL_law_401 : decode cL_law 401 = .ok (.goto 4, 3) := by decide +kernel
theorem dL_law_404 : decode cL_law 404 = .ok (.iconst 0, 1) := by decide +kernel
theorem dL_law_405 : decode cL_law 405 = .ok (.istore 10, 2) := by decide +kernel
theorem dL_law_407 : decode cL_law 407 = .ok (.iconst 0, 1) := by decide +kernel
theorem dL_law_408 : decode cL_law 408 = .ok (.istore 13, 2) := by decide +kernel
theorem dL_law_410 : decode cL_law 410 = .ok (.iload 13, 2) := by decide +kernel
theorem dL_law_412 : decode cL_law 412 = .ok (.aload_n 1, 1) := by decide +kernel
theorem dL_law_413 : decode cL_law 413 = .ok (.iload 12, 2) := by decide +kernel
theorem dL_law_415 : decode cL_law 415 = .ok (.bipush 9, 2) := by decide +kernel
theorem dL_law_417 : decode cL_law 417 = .ok (.invokevirtual 89, 3) := by decide +kernel
theorem dL_law_420 : decode cL_law 420 = .ok (.if_icmp .ge 80, 3) := by decide +kernel
theorem dL_law_423 : decode cL_law 423 = .ok (.aload_n 1, 1) := by decide +kernel
theorem dL_law_424 : decode cL_law 424 = .ok (.iload 12, 2) := by decide +kernel
theorem dL_law_426 : decode cL_law 426 = .ok (.iload 13, 2) := by decide +kernel
theorem dL_law_428 : decode cL_law 428 = .ok (.iconst 0, 1) := by decide +kernel
theorem dL_law_429 : decode cL_law 429 = .ok (.invokevirtual 95, 3) := by decide +kernel
theorem dL_law_432 : decode cL_law 432 = .ok (.istore 14, 2) := by decide +kernel
theorem dL_law_434 : decode cL_law 434 = .ok (.aload_n 1, 1) := by decide +kernel
theorem dL_law_435 : decode cL_law 435 = .ok (.iload 5, 2) := by decide +kernel
theorem dL_law_437 : decode cL_law 437 = .ok (.iload 14, 2) := by decide +kernel
theorem dL_law_439 : decode cL_law 439 = .ok (.invokevirtual 101, 3) := by decide +kernel
theorem dL_law_442 : decode cL_law 442 = .ok (.ifCond .eq 6, 3) := by decide +kernel
theorem dL_law_445 : decode cL_law 445 = .ok (.goto 49, 3) := by decide +kernel
theorem dL_law_448 : decode cL_law 448 = .ok (.iload 10, 2) := by decide +kernel
theorem dL_law_450 : decode cL_law 450 = .ok (.ifCond .ne 11, 3) := by decide +kernel
theorem dL_law_453 : decode cL_law 453 = .ok (.aload 9, 2) := by decide +kernel
theorem dL_law_455 : decode cL_law 455 = .ok (.iload 14, 2) := by decide +kernel
theorem dL_law_457 : decode cL_law 457 = .ok (.baload, 1) := by decide +kernel
theorem dL_law_458 : decode cL_law 458 = .ok (.ifCond .eq 7, 3) := by decide +kernel
theorem dL_law_461 : decode cL_law 461 = .ok (.iconst 1, 1) := by decide +kernel
theorem dL_law_462 : decode cL_law 462 = .ok (.goto 4, 3) := by decide +kernel
theorem dL_law_465 : decode cL_law 465 = .ok (.iconst 0, 1) := by decide +kernel
theorem dL_law_466 : decode cL_law 466 = .ok (.istore 10, 2) := by decide +kernel
theorem dL_law_468 : decode cL_law 468 = .ok (.aload 9, 2) := by decide +kernel
theorem dL_law_470 : decode cL_law 470 = .ok (.iload 14, 2) := by decide +kernel
theorem dL_law_472 : decode cL_law 472 = .ok (.baload, 1) := by decide +kernel
theorem dL_law_473 : decode cL_law 473 = .ok (.ifCond .eq 6, 3) := by decide +kernel
theorem dL_law_476 : decode cL_law 476 = .ok (.goto 18, 3) := by decide +kernel
theorem dL_law_479 : decode cL_law 479 = .ok (.aload 9, 2) := by decide +kernel
theorem dL_law_481 : decode cL_law 481 = .ok (.iload 14, 2) := by decide +kernel
theorem dL_law_483 : decode cL_law 483 = .ok (.iconst 1, 1) := by decide +kernel
theorem dL_law_484 : decode cL_law 484 = .ok (.bastore, 1) := by decide +kernel
theorem dL_law_485 : decode cL_law 485 = .ok (.aload 8, 2) := by decide +kernel
theorem dL_law_487 : decode cL_law 487 = .ok (.iload 14, 2) := by decide +kernel
theorem dL_law_489 : decode cL_law 489 = .ok (.invokestatic 26, 3) := by decide +kernel
theorem dL_law_492 : decode cL_law 492 = .ok (.astore 8, 2) := by decide +kernel
theorem dL_law_494 : decode cL_law 494 = .ok (.iinc 13 1, 3) := by decide +kernel
theorem dL_law_497 : decode cL_law 497 = .ok (.goto (-87), 3) := by decide +kernel
theorem dL_law_500 : decode cL_law 500 = .ok (.iinc 11 1, 3) := by decide +kernel
theorem dL_law_503 : decode cL_law 503 = .ok (.goto (-134), 3) := by decide +kernel
theorem dL_law_506 : decode cL_law 506 = .ok (.iload 10, 2) := by decide +kernel
theorem dL_law_508 : decode cL_law 508 = .ok (.ifCond .ne 5, 3) := by decide +kernel
theorem dL_law_511 : decode cL_law 511 = .ok (.iconst 0, 1) := by decide +kernel
theorem dL_law_512 : decode cL_law 512 = .ok (.ireturn, 1) := by decide +kernel
theorem dL_law_513 : decode cL_law 513 = .ok (.iconst 0, 1) := by decide +kernel
theorem dL_law_514 : decode cL_law 514 = .ok (.istore 8, 2) := by decide +kernel
theorem dL_law_516 : decode cL_law 516 = .ok (.iconst 0, 1) := by decide +kernel
theorem dL_law_517 : decode cL_law 517 = .ok (.istore 9, 2) := by decide +kernel
theorem dL_law_519 : decode cL_law 519 = .ok (.aload 4, 2) := by decide +kernel
theorem dL_law_521 : decode cL_law 521 = .ok (.iload 5, 2) := by decide +kernel
theorem dL_law_523 : decode cL_law 523 = .ok (.aaload, 1) := by decide +kernel
theorem dL_law_524 : decode cL_law 524 = .ok (.iconst 0, 1) := by decide +kernel
theorem dL_law_525 : decode cL_law 525 = .ok (.baload, 1) := by decide +kernel
theorem dL_law_526 : decode cL_law 526 = .ok (.istore 10, 2) := by decide +kernel
theorem dL_law_528 : decode cL_law 528 = .ok (.aload_n 1, 1) := by decide +kernel
theorem dL_law_529 : decode cL_law 529 = .ok (.iload 5, 2) := by decide +kernel
theorem dL_law_531 : decode cL_law 531 = .ok (.iconst 0, 1) := by decide +kernel
theorem dL_law_532 : decode cL_law 532 = .ok (.invokevirtual 105, 3) := by decide +kernel
theorem dL_law_535 : decode cL_law 535 = .ok (.istore 11, 2) := by decide +kernel
theorem dL_law_537 : decode cL_law 537 = .ok (.iconst 0, 1) := by decide +kernel
theorem dL_law_538 : decode cL_law 538 = .ok (.istore 12, 2) := by decide +kernel
theorem dL_law_540 : decode cL_law 540 = .ok (.iload 12, 2) := by decide +kernel
theorem dL_law_542 : decode cL_law 542 = .ok (.iconst 4, 1) := by decide +kernel
theorem dL_law_543 : decode cL_law 543 = .ok (.iload_n 3, 1) := by decide +kernel
theorem dL_law_544 : decode cL_law 544 = .ok (.imul, 1) := by decide +kernel
theorem dL_law_545 : decode cL_law 545 = .ok (.bipush 40, 2) := by decide +kernel
theorem dL_law_547 : decode cL_law 547 = .ok (.iadd, 1) := by decide +kernel
theorem dL_law_548 : decode cL_law 548 = .ok (.if_icmp .ge 171, 3) := by decide +kernel
theorem dL_law_551 : decode cL_law 551 = .ok (.aload_n 1, 1) := by decide +kernel
theorem dL_law_552 : decode cL_law 552 = .ok (.iload 8, 2) := by decide +kernel
theorem dL_law_554 : decode cL_law 554 = .ok (.bipush 9, 2) := by decide +kernel
theorem dL_law_556 : decode cL_law 556 = .ok (.invokevirtual 89, 3) := by decide +kernel
theorem dL_law_559 : decode cL_law 559 = .ok (.ifCond .le 160, 3) := by decide +kernel
theorem dL_law_562 : decode cL_law 562 = .ok (.iload 10, 2) := by decide +kernel
theorem dL_law_564 : decode cL_law 564 = .ok (.ifCond .ne 155, 3) := by decide +kernel
theorem dL_law_567 : decode cL_law 567 = .ok (.aload_n 1, 1) := by decide +kernel
theorem dL_law_568 : decode cL_law 568 = .ok (.iload 8, 2) := by decide +kernel
theorem dL_law_570 : decode cL_law 570 = .ok (.bipush 9, 2) := by decide +kernel
theorem dL_law_572 : decode cL_law 572 = .ok (.invokevirtual 89, 3) := by decide +kernel
theorem dL_law_575 : decode cL_law 575 = .ok (.istore 13, 2) := by decide +kernel
theorem dL_law_577 : decode cL_law 577 = .ok (.iconst (-1), 1) := by decide +kernel
theorem dL_law_578 : decode cL_law 578 = .ok (.istore 14, 2) := by decide +kernel
theorem dL_law_580 : decode cL_law 580 = .ok (.iconst 0, 1) := by decide +kernel
theorem dL_law_581 : decode cL_law 581 = .ok (.istore 15, 2) := by decide +kernel
theorem dL_law_583 : decode cL_law 583 = .ok (.iload 15, 2) := by decide +kernel
theorem dL_law_585 : decode cL_law 585 = .ok (.aload_n 2, 1) := by decide +kernel
theorem dL_law_586 : decode cL_law 586 = .ok (.getfield 22, 3) := by decide +kernel
theorem dL_law_589 : decode cL_law 589 = .ok (.arraylength, 1) := by decide +kernel
theorem dL_law_590 : decode cL_law 590 = .ok (.if_icmp .ge 102, 3) := by decide +kernel
theorem dL_law_593 : decode cL_law 593 = .ok (.iload 14, 2) := by decide +kernel
theorem dL_law_595 : decode cL_law 595 = .ok (.ifCond .ge 97, 3) := by decide +kernel
theorem dL_law_598 : decode cL_law 598 = .ok (.iload 9, 2) := by decide +kernel
theorem dL_law_600 : decode cL_law 600 = .ok (.iload 15, 2) := by decide +kernel
theorem dL_law_602 : decode cL_law 602 = .ok (.iadd, 1) := by decide +kernel
theorem dL_law_603 : decode cL_law 603 = .ok (.aload_n 2, 1) := by decide +kernel
theorem dL_law_604 : decode cL_law 604 = .ok (.getfield 22, 3) := by decide +kernel
theorem dL_law_607 : decode cL_law 607 = .ok (.arraylength, 1) := by decide +kernel
theorem dL_law_608 : decode cL_law 608 = .ok (.irem, 1) := by decide +kernel
theorem dL_law_609 : decode cL_law 609 = .ok (.istore 16, 2) := by decide +kernel
theorem dL_law_611 : decode cL_law 611 = .ok (.iconst 0, 1) := by decide +kernel
theorem dL_law_612 : decode cL_law 612 = .ok (.istore 17, 2) := by decide +kernel
theorem dL_law_614 : decode cL_law 614 = .ok (.iload 17, 2) := by decide +kernel
theorem dL_law_616 : decode cL_law 616 = .ok (.iload 13, 2) := by decide +kernel
theorem dL_law_618 : decode cL_law 618 = .ok (.if_icmp .ge 51, 3) := by decide +kernel
theorem dL_law_621 : decode cL_law 621 = .ok (.iload 17, 2) := by decide +kernel
theorem dL_law_623 : decode cL_law 623 = .ok (.iload 12, 2) := by decide +kernel
theorem dL_law_625 : decode cL_law 625 = .ok (.iadd, 1) := by decide +kernel
theorem dL_law_626 : decode cL_law 626 = .ok (.iload 13, 2) := by decide +kernel
theorem dL_law_628 : decode cL_law 628 = .ok (.irem, 1) := by decide +kernel
theorem dL_law_629 : decode cL_law 629 = .ok (.istore 18, 2) := by decide +kernel
theorem dL_law_631 : decode cL_law 631 = .ok (.aload_n 1, 1) := by decide +kernel
theorem dL_law_632 : decode cL_law 632 = .ok (.iload 8, 2) := by decide +kernel
theorem dL_law_634 : decode cL_law 634 = .ok (.iload 18, 2) := by decide +kernel
theorem dL_law_636 : decode cL_law 636 = .ok (.iconst 1, 1) := by decide +kernel
theorem dL_law_637 : decode cL_law 637 = .ok (.invokevirtual 95, 3) := by decide +kernel
theorem dL_law_640 : decode cL_law 640 = .ok (.iload 16, 2) := by decide +kernel
theorem dL_law_642 : decode cL_law 642 = .ok (.if_icmp .eq 17, 3) := by decide +kernel
theorem dL_law_645 : decode cL_law 645 = .ok (.aload_n 1, 1) := by decide +kernel
theorem dL_law_646 : decode cL_law 646 = .ok (.iload 8, 2) := by decide +kernel
theorem dL_law_648 : decode cL_law 648 = .ok (.iload 18, 2) := by decide +kernel
theorem dL_law_650 : decode cL_law 650 = .ok (.iconst 3, 1) := by decide +kernel
theorem dL_law_651 : decode cL_law 651 = .ok (.invokevirtual 95, 3) := by decide +kernel
theorem dL_law_654 : decode cL_law 654 = .ok (.iload 16, 2) := by decide +kernel
theorem dL_law_656 : decode cL_law 656 = .ok (.if_icmp .ne 7, 3) := by decide +kernel
theorem dL_law_659 : decode cL_law 659 = .ok (.iload 18, 2) := by decide +kernel
theorem dL_law_661 : decode cL_law 661 = .ok (.istore 14, 2) := by decide +kernel
theorem dL_law_663 : decode cL_law 663 = .ok (.iinc 17 1, 3) := by decide +kernel
theorem dL_law_666 : decode cL_law 666 = .ok (.goto (-52), 3) := by decide +kernel
theorem dL_law_669 : decode cL_law 669 = .ok (.iload 14, 2) := by decide +kernel
theorem dL_law_671 : decode cL_law 671 = .ok (.ifCond .lt 15, 3) := by decide +kernel
theorem dL_law_674 : decode cL_law 674 = .ok (.iload 16, 2) := by decide +kernel
theorem dL_law_676 : decode cL_law 676 = .ok (.iconst 1, 1) := by decide +kernel
theorem dL_law_677 : decode cL_law 677 = .ok (.iadd, 1) := by decide +kernel
theorem dL_law_678 : decode cL_law 678 = .ok (.aload_n 2, 1) := by decide +kernel
theorem dL_law_679 : decode cL_law 679 = .ok (.getfield 22, 3) := by decide +kernel
theorem dL_law_682 : decode cL_law 682 = .ok (.arraylength, 1) := by decide +kernel
theorem dL_law_683 : decode cL_law 683 = .ok (.irem, 1) := by decide +kernel
theorem dL_law_684 : decode cL_law 684 = .ok (.istore 9, 2) := by decide +kernel
theorem dL_law_686 : decode cL_law 686 = .ok (.iinc 15 1, 3) := by decide +kernel
theorem dL_law_689 : decode cL_law 689 = .ok (.goto (-106), 3) := by decide +kernel
theorem dL_law_692 : decode cL_law 692 = .ok (.aload_n 1, 1) := by decide +kernel
theorem dL_law_693 : decode cL_law 693 = .ok (.iload 8, 2) := by decide +kernel
theorem dL_law_695 : decode cL_law 695 = .ok (.iload 14, 2) := by decide +kernel
theorem dL_law_697 : decode cL_law 697 = .ok (.iconst 0, 1) := by decide +kernel
theorem dL_law_698 : decode cL_law 698 = .ok (.invokevirtual 95, 3) := by decide +kernel
theorem dL_law_701 : decode cL_law 701 = .ok (.istore 8, 2) := by decide +kernel
theorem dL_law_703 : decode cL_law 703 = .ok (.aload 4, 2) := by decide +kernel
theorem dL_law_705 : decode cL_law 705 = .ok (.iload 5, 2) := by decide +kernel
theorem dL_law_707 : decode cL_law 707 = .ok (.aaload, 1) := by decide +kernel
theorem dL_law_708 : decode cL_law 708 = .ok (.iload 8, 2) := by decide +kernel
theorem dL_law_710 : decode cL_law 710 = .ok (.baload, 1) := by decide +kernel
theorem dL_law_711 : decode cL_law 711 = .ok (.istore 10, 2) := by decide +kernel
theorem dL_law_713 : decode cL_law 713 = .ok (.iinc 12 1, 3) := by decide +kernel
theorem dL_law_716 : decode cL_law 716 = .ok (.goto (-176), 3) := by decide +kernel
theorem dL_law_719 : decode cL_law 719 = .ok (.iload 10, 2) := by decide +kernel
theorem dL_law_721 : decode cL_law 721 = .ok (.ifCond .ne 19, 3) := by decide +kernel
theorem dL_law_724 : decode cL_law 724 = .ok (.aload_n 1, 1) := by decide +kernel
theorem dL_law_725 : decode cL_law 725 = .ok (.iload 8, 2) := by decide +kernel
theorem dL_law_727 : decode cL_law 727 = .ok (.bipush 9, 2) := by decide +kernel
theorem dL_law_729 : decode cL_law 729 = .ok (.invokevirtual 89, 3) := by decide +kernel
theorem dL_law_732 : decode cL_law 732 = .ok (.ifCond .gt 8, 3) := by decide +kernel
theorem dL_law_735 : decode cL_law 735 = .ok (.iload 11, 2) := by decide +kernel
theorem dL_law_737 : decode cL_law 737 = .ok (.ifCond .eq 7, 3) := by decide +kernel
theorem dL_law_740 : decode cL_law 740 = .ok (.iconst 1, 1) := by decide +kernel
theorem dL_law_741 : decode cL_law 741 = .ok (.goto 4, 3) := by decide +kernel
theorem dL_law_744 : decode cL_law 744 = .ok (.iconst 0, 1) := by decide +kernel
theorem dL_law_745 : decode cL_law 745 = .ok (.ireturn, 1) := by decide +kernel
abbrev vwCl : List vw_C := [(RX0, TX0, 4), (RX1, TX1, 12), (RX2, TX2, 7), (RX3, TX3, 11), (RX4, TX4, 15), (RX5, TX5, 4), (RX6, TX6, 8)]
end
section
/-! TABLES of the claim, for the Z layer: words by their places in lw_tbl -/
def zT : List Cond := lw_tbl.filter goodWord
theorem zT_of {w : Cond} (i : Nat) (h : lw_tbl[i]? = some w) (hg : goodWord w = true) : w ∈ zT := List.mem_filter.mpr ⟨List.mem_of_getElem? h, hg⟩
theorem zT_list {ws : List Cond} (ps : List Nat) (hp : ws = ps.filterMap (fun i => lw_tbl[i]?)) (hg : ws.all goodWord = true) : ∀ w ∈ ws, w ∈ zT := by
  intro w hw
  have h1 := List.all_eq_true.mp hg w hw
  rw [hp] at hw
  obtain ⟨i, -, hi⟩ := List.mem_filterMap.mp hw
  exact zT_of i hi h1
theorem zT_good : GoodIn zT zT := fun w h => ⟨h, good_of_word (List.mem_filter.mp h).2⟩
def zcl (c : Nat) : vw_C := (vwCl[c]?).getD (RX0, TX0, 0)
def zFT (c k : Nat) : FieldType := match c with
  | 0 => tyX0 k
  | 1 => tyX1 k
  | 2 => tyX2 k
  | 3 => tyX3 k
  | 4 => tyX4 k
  | 5 => tyX5 k
  | _ => tyX6 k
theorem zin0 : ∀ w ∈ u_ws RX0 TX0 4, w ∈ zT := zT_list [130, 132, 134, 136] (by decide +kernel) (by decide +kernel)
theorem zin1 : ∀ w ∈ u_ws RX1 TX1 12, w ∈ zT := zT_list [707, 709, 711, 713, 715, 717, 719, 721, 723, 725, 727, 729] (by decide +kernel) (by decide +kernel)
theorem zin2 : ∀ w ∈ u_ws RX2 TX2 7, w ∈ zT := zT_list [60, 62, 64, 66, 68, 70, 72] (by decide +kernel) (by decide +kernel)
theorem zin3 : ∀ w ∈ u_ws RX3 TX3 11, w ∈ zT := zT_list [96, 98, 100, 102, 104, 106, 108, 110, 112, 114, 116] (by decide +kernel) (by decide +kernel)
theorem zin4 : ∀ w ∈ u_ws RX4 TX4 15, w ∈ zT := zT_list [160, 162, 164, 166, 168, 170, 172, 174, 176, 178, 180, 182, 184, 186, 188] (by decide +kernel) (by decide +kernel)
theorem zin5 : ∀ w ∈ u_ws RX5 TX5 4, w ∈ zT := zT_list [196, 198, 200, 202] (by decide +kernel) (by decide +kernel)
theorem zin6 : ∀ w ∈ u_ws RX6 TX6 8, w ∈ zT := zT_list [617, 619, 621, 623, 625, 627, 629, 631] (by decide +kernel) (by decide +kernel)
def znC : Nat := 7
/-- what the tables say of a class: its place, its words, its fields' types and names -/
def zCl (c : Nat) : Prop := vwCl[c]? = some (zcl c) ∧ (∀ w ∈ u_ws (zcl c).1 (zcl c).2.1 (zcl c).2.2, w ∈ zT) ∧ (∀ k, k < (zcl c).2.2 → parseFieldDescriptor ((zcl c).2.1 k).2.2.1 = some (zFT c k)) ∧ (∀ a, a < (zcl c).2.2 → ∀ b, b < (zcl c).2.2 → a ≠ b → ((zcl c).2.1 a).2.1 ≠ ((zcl c).2.1 b).2.1)
theorem zCl_0 : zCl 0 := ⟨rfl, zin0, tyX0_ok, nmX0⟩
theorem zCl_1 : zCl 1 := ⟨rfl, zin1, tyX1_ok, nmX1⟩
theorem zCl_2 : zCl 2 := ⟨rfl, zin2, tyX2_ok, nmX2⟩
theorem zCl_3 : zCl 3 := ⟨rfl, zin3, tyX3_ok, nmX3⟩
theorem zCl_4 : zCl 4 := ⟨rfl, zin4, tyX4_ok, nmX4⟩
theorem zCl_5 : zCl 5 := ⟨rfl, zin5, tyX5_ok, nmX5⟩
theorem zCl_6 : zCl 6 := ⟨rfl, zin6, tyX6_ok, nmX6⟩
theorem zCl_all : ∀ c, c < znC → zCl c := by
  intro c hc
  match c, hc with
  | 0, _ => exact zCl_0
  | 1, _ => exact zCl_1
  | 2, _ => exact zCl_2
  | 3, _ => exact zCl_3
  | 4, _ => exact zCl_4
  | 5, _ => exact zCl_5
  | 6, _ => exact zCl_6
  | n + 7, h => exact absurd h (by unfold znC; omega)
def zNF : List (String × Nat × String × String × String × String) := [("FairChecker", 48, "FairChecker$Protocol", "processes", "I", "FairChecker"), ("FairChecker$StateSpace", 78, "FairChecker$Protocol", "processes", "I", "FairChecker"), ("FairChecker", 68, "FairChecker$Protocol", "variables", "I", "FairChecker"), ("FairChecker$Traps", 45, "FairChecker$StateSpace", "states", "I", "FairChecker"), ("FairChecker", 211, "FairChecker$StateSpace", "states", "I", "FairChecker"), ("FairChecker$Traps", 80, "FairChecker$StateSpace", "steps", "I", "FairChecker"), ("FairChecker", 183, "FairChecker$Facts", "size", "I", "FairChecker"), ("FairChecker$StateSpace", 115, "FairChecker$Move", "process", "I", "FairChecker"), ("FairChecker$StateSpace", 121, "FairChecker$Move", "number", "I", "FairChecker"), ("FairChecker$StateSpace", 104, "FairChecker$Move", "hand", "I", "FairChecker")]
def zNM : List (String × Nat × MethodName × String) := [("FairChecker", 11, ⟨"FairChecker$Protocol", "<init>", "()V"⟩, "FairChecker"), ("FairChecker", 18, ⟨"FairChecker$StateSpace", "<init>", "()V"⟩, "FairChecker"), ("FairChecker", 25, ⟨"FairChecker$Facts", "<init>", "()V"⟩, "FairChecker"), ("FairChecker", 32, ⟨"FairChecker$Traps", "<init>", "()V"⟩, "FairChecker"), ("FairChecker$Protocol", 51, ⟨"FairChecker", "withValue", "(III)I"⟩, "FairChecker"), ("FairChecker$Move", 48, ⟨"FairChecker", "locationIn", "(II)I"⟩, "FairChecker"), ("FairChecker$Move", 60, ⟨"FairChecker", "valueIn", "(II)I"⟩, "FairChecker"), ("FairChecker$Move", 63, ⟨"FairChecker", "isBetween", "(III)Z"⟩, "FairChecker"), ("FairChecker$Move", 67, ⟨"FairChecker", "withValue", "(III)I"⟩, "FairChecker"), ("FairChecker$Move", 71, ⟨"FairChecker", "withLocation", "(III)I"⟩, "FairChecker"), ("FairChecker$Facts", 33, ⟨"FairChecker", "locationIn", "(II)I"⟩, "FairChecker"), ("FairChecker$Facts", 37, ⟨"FairChecker", "valueIn", "(II)I"⟩, "FairChecker"), ("FairCheckerLaw", 11, ⟨"FairCheckerLaw$Hand", "<init>", "()V"⟩, "FairCheckerLaw")]
theorem zNF_in : ∀ q ∈ zNF, Cond.fieldLinkNest q.1 q.2.1 q.2.2.1 q.2.2.2.1 q.2.2.2.2.1 q.2.2.2.2.2 ∈ lw_tbl := by
  have h : zNF.map (fun q => Cond.fieldLinkNest q.1 q.2.1 q.2.2.1 q.2.2.2.1 q.2.2.2.2.1 q.2.2.2.2.2) = [56, 57, 58, 91, 92, 93, 129, 693, 695, 699].filterMap (fun i => lw_tbl[i]?) := by decide +kernel
  intro q hq
  have h1 := List.mem_map_of_mem (f := fun q => Cond.fieldLinkNest q.1 q.2.1 q.2.2.1 q.2.2.2.1 q.2.2.2.2.1 q.2.2.2.2.2) hq
  rw [h] at h1
  obtain ⟨i, -, hi⟩ := List.mem_filterMap.mp h1
  exact List.mem_of_getElem? hi
theorem zNM_in : ∀ q ∈ zNM, Cond.methodLinkNest q.1 q.2.1 q.2.2.1 q.2.2.2 ∈ lw_tbl := by
  have h : zNM.map (fun q => Cond.methodLinkNest q.1 q.2.1 q.2.2.1 q.2.2.2) = [44, 78, 121, 141, 296, 329, 337, 344, 347, 357, 471, 472, 599].filterMap (fun i => lw_tbl[i]?) := by decide +kernel
  intro q hq
  have h1 := List.mem_map_of_mem (f := fun q => Cond.methodLinkNest q.1 q.2.1 q.2.2.1 q.2.2.2) hq
  rw [h] at h1
  obtain ⟨i, -, hi⟩ := List.mem_filterMap.mp h1
  exact List.mem_of_getElem? hi
def zAT (t : Nat) : FieldType := match t with
  | 0 => FieldType.int
  | 1 => FieldType.boolean
  | 2 => FieldType.byte
  | 3 => FieldType.object "FairChecker$Move"
  | 4 => FieldType.array FieldType.int
  | 5 => FieldType.array (FieldType.array FieldType.int)
  | _ => FieldType.array FieldType.boolean
def znA : Nat := 7
/-- a method: name, bytes, locals, answer, arguments -/
abbrev zM : Type := MethodName × ByteArray × Nat × Option FieldType × Nat
def zW (y : zM) : List Cond := .code y.1 y.2.1 y.2.2.1 y.2.2.2.1 :: zT
def zOK (y : zM) : Prop := (Cond.code y.1 y.2.1 y.2.2.1 y.2.2.2.1 ∈ zT ∧ Cond.initialized y.1.cls ∈ zT) ∧ y.1.cls ≠ "java/lang/invoke/MethodHandle" ∧ y.1.cls ≠ "java/lang/invoke/VarHandle" ∧ (parseMethodDescriptor y.1.desc).map (fun d => d.parameters.length) = some y.2.2.2.2
def zVI (y : zM) : Prop := zOK y ∧ Cond.instanceMethod y.1 ∈ zT ∧ Cond.selects y.1.cls y.1 y.1 ∈ zT
def zVS (y : zM) : Prop := zOK y ∧ Cond.static y.1 ∈ zT
def zVC (y : zM) : Prop := zOK y ∧ Cond.instanceMethod y.1 ∈ zT ∧ y.1.name = "<init>" ∧ y.2.2.2.1 = none
/-- the link of a call, at its place in a class's pool: a plain one, or a nest mate's -/
def zLK (own : String) (ix : Nat) (x : MethodName) : Prop := Cond.methodLink own ix x ∈ zT ∨ ∃ host, (own, ix, x, host) ∈ zNM
def zFL (own : String) (ix c k : Nat) : Prop := (c < znC ∧ k < (zcl c).2.2) ∧ (Cond.fieldLink own ix ((zcl c).2.1 k).1 ((zcl c).2.1 k).2.1 ((zcl c).2.1 k).2.2.1 ∈ zT ∨ ∃ host, (own, ix, ((zcl c).2.1 k).1, ((zcl c).2.1 k).2.1, ((zcl c).2.1 k).2.2.1, host) ∈ zNF)
def zmX5_init : zM := (yX5_init, cX5_init, 1, none, 0)
theorem zmX5_init_ok : zVC zmX5_init := ⟨⟨⟨zT_of 38 (by decide +kernel) (by decide +kernel), zT_of 18 (by decide +kernel) (by decide +kernel)⟩, by decide +kernel, by decide +kernel, by decide +kernel⟩, zT_of 37 (by decide +kernel) (by decide +kernel), rfl, rfl⟩
def zmX2_init : zM := (yX2_init, cX2_init, 1, none, 0)
theorem zmX2_init_ok : zVC zmX2_init := ⟨⟨⟨zT_of 46 (by decide +kernel) (by decide +kernel), zT_of 19 (by decide +kernel) (by decide +kernel)⟩, by decide +kernel, by decide +kernel, by decide +kernel⟩, zT_of 45 (by decide +kernel) (by decide +kernel), rfl, rfl⟩
def zmX3_init : zM := (yX3_init, cX3_init, 1, none, 0)
theorem zmX3_init_ok : zVC zmX3_init := ⟨⟨⟨zT_of 80 (by decide +kernel) (by decide +kernel), zT_of 20 (by decide +kernel) (by decide +kernel)⟩, by decide +kernel, by decide +kernel, by decide +kernel⟩, zT_of 79 (by decide +kernel) (by decide +kernel), rfl, rfl⟩
def zmX0_init : zM := (yX0_init, cX0_init, 1, none, 0)
theorem zmX0_init_ok : zVC zmX0_init := ⟨⟨⟨zT_of 123 (by decide +kernel) (by decide +kernel), zT_of 21 (by decide +kernel) (by decide +kernel)⟩, by decide +kernel, by decide +kernel, by decide +kernel⟩, zT_of 122 (by decide +kernel) (by decide +kernel), rfl, rfl⟩
def zmX4_init : zM := (yX4_init, cX4_init, 1, none, 0)
theorem zmX4_init_ok : zVC zmX4_init := ⟨⟨⟨zT_of 143 (by decide +kernel) (by decide +kernel), zT_of 22 (by decide +kernel) (by decide +kernel)⟩, by decide +kernel, by decide +kernel, by decide +kernel⟩, zT_of 142 (by decide +kernel) (by decide +kernel), rfl, rfl⟩
def zmX5_explore : zM := (yX5_explore, cX5_explore, 1, (some FieldType.int), 0)
theorem zmX5_explore_ok : zVI zmX5_explore := ⟨⟨⟨zT_of 208 (by decide +kernel) (by decide +kernel), zT_of 18 (by decide +kernel) (by decide +kernel)⟩, by decide +kernel, by decide +kernel, by decide +kernel⟩, zT_of 206 (by decide +kernel) (by decide +kernel), zT_of 207 (by decide +kernel) (by decide +kernel)⟩
def zmX4_forget : zM := (yX4_forget, cX4_forget, 1, none, 0)
theorem zmX4_forget_ok : zVI zmX4_forget := ⟨⟨⟨zT_of 280 (by decide +kernel) (by decide +kernel), zT_of 22 (by decide +kernel) (by decide +kernel)⟩, by decide +kernel, by decide +kernel, by decide +kernel⟩, zT_of 278 (by decide +kernel) (by decide +kernel), zT_of 279 (by decide +kernel) (by decide +kernel)⟩
def zmX3_fill : zM := (yX3_fill, cX3_fill, 4, (some FieldType.int), 1)
theorem zmX3_fill_ok : zVI zmX3_fill := ⟨⟨⟨zT_of 284 (by decide +kernel) (by decide +kernel), zT_of 20 (by decide +kernel) (by decide +kernel)⟩, by decide +kernel, by decide +kernel, by decide +kernel⟩, zT_of 282 (by decide +kernel) (by decide +kernel), zT_of 283 (by decide +kernel) (by decide +kernel)⟩
def zmX3_forget : zM := (yX3_forget, cX3_forget, 1, none, 0)
theorem zmX3_forget_ok : zVI zmX3_forget := ⟨⟨⟨zT_of 288 (by decide +kernel) (by decide +kernel), zT_of 20 (by decide +kernel) (by decide +kernel)⟩, by decide +kernel, by decide +kernel, by decide +kernel⟩, zT_of 286 (by decide +kernel) (by decide +kernel), zT_of 287 (by decide +kernel) (by decide +kernel)⟩
def zmJ7_fill_53178 : zM := (yJ7_fill_53178, cJ7_fill_53178, 4, none, 2)
theorem zmJ7_fill_53178_ok : zVS zmJ7_fill_53178 := ⟨⟨⟨zT_of 291 (by decide +kernel) (by decide +kernel), zT_of 31 (by decide +kernel) (by decide +kernel)⟩, by decide +kernel, by decide +kernel, by decide +kernel⟩, zT_of 290 (by decide +kernel) (by decide +kernel)⟩
def zmX2_keyAtBeginning : zM := (yX2_keyAtBeginning, cX2_keyAtBeginning, 3, (some FieldType.int), 0)
theorem zmX2_keyAtBeginning_ok : zVI zmX2_keyAtBeginning := ⟨⟨⟨zT_of 295 (by decide +kernel) (by decide +kernel), zT_of 19 (by decide +kernel) (by decide +kernel)⟩, by decide +kernel, by decide +kernel, by decide +kernel⟩, zT_of 293 (by decide +kernel) (by decide +kernel), zT_of 294 (by decide +kernel) (by decide +kernel)⟩
def zmX5_withValue : zM := (yX5_withValue, cX5_withValue, 4, (some FieldType.int), 3)
theorem zmX5_withValue_ok : zVS zmX5_withValue := ⟨⟨⟨zT_of 298 (by decide +kernel) (by decide +kernel), zT_of 18 (by decide +kernel) (by decide +kernel)⟩, by decide +kernel, by decide +kernel, by decide +kernel⟩, zT_of 297 (by decide +kernel) (by decide +kernel)⟩
def zmX3_slotOf : zM := (yX3_slotOf, cX3_slotOf, 4, (some FieldType.int), 1)
theorem zmX3_slotOf_ok : zVI zmX3_slotOf := ⟨⟨⟨zT_of 302 (by decide +kernel) (by decide +kernel), zT_of 20 (by decide +kernel) (by decide +kernel)⟩, by decide +kernel, by decide +kernel, by decide +kernel⟩, zT_of 301 (by decide +kernel) (by decide +kernel), zT_of 1 (by decide +kernel) (by decide +kernel)⟩
def zmX3_newState : zM := (yX3_newState, cX3_newState, 5, none, 4)
theorem zmX3_newState_ok : zVI zmX3_newState := ⟨⟨⟨zT_of 307 (by decide +kernel) (by decide +kernel), zT_of 20 (by decide +kernel) (by decide +kernel)⟩, by decide +kernel, by decide +kernel, by decide +kernel⟩, zT_of 306 (by decide +kernel) (by decide +kernel), zT_of 2 (by decide +kernel) (by decide +kernel)⟩
def zmX3_addStepsOf : zM := (yX3_addStepsOf, cX3_addStepsOf, 7, none, 2)
theorem zmX3_addStepsOf_ok : zVI zmX3_addStepsOf := ⟨⟨⟨zT_of 311 (by decide +kernel) (by decide +kernel), zT_of 20 (by decide +kernel) (by decide +kernel)⟩, by decide +kernel, by decide +kernel, by decide +kernel⟩, zT_of 310 (by decide +kernel) (by decide +kernel), zT_of 3 (by decide +kernel) (by decide +kernel)⟩
def zmX2_movesOf : zM := (yX2_movesOf, cX2_movesOf, 2, (some FieldType.int), 1)
theorem zmX2_movesOf_ok : zVI zmX2_movesOf := ⟨⟨⟨zT_of 315 (by decide +kernel) (by decide +kernel), zT_of 19 (by decide +kernel) (by decide +kernel)⟩, by decide +kernel, by decide +kernel, by decide +kernel⟩, zT_of 313 (by decide +kernel) (by decide +kernel), zT_of 314 (by decide +kernel) (by decide +kernel)⟩
def zmX2_hasProcess : zM := (yX2_hasProcess, cX2_hasProcess, 2, (some FieldType.boolean), 1)
theorem zmX2_hasProcess_ok : zVI zmX2_hasProcess := ⟨⟨⟨zT_of 319 (by decide +kernel) (by decide +kernel), zT_of 19 (by decide +kernel) (by decide +kernel)⟩, by decide +kernel, by decide +kernel, by decide +kernel⟩, zT_of 317 (by decide +kernel) (by decide +kernel), zT_of 318 (by decide +kernel) (by decide +kernel)⟩
def zmX2_find : zM := (yX2_find, cX2_find, 3, (some (FieldType.object "FairChecker$Move")), 2)
theorem zmX2_find_ok : zVI zmX2_find := ⟨⟨⟨zT_of 323 (by decide +kernel) (by decide +kernel), zT_of 19 (by decide +kernel) (by decide +kernel)⟩, by decide +kernel, by decide +kernel, by decide +kernel⟩, zT_of 321 (by decide +kernel) (by decide +kernel), zT_of 322 (by decide +kernel) (by decide +kernel)⟩
def zmX1_isOpenIn : zM := (yX1_isOpenIn, cX1_isOpenIn, 2, (some FieldType.boolean), 1)
theorem zmX1_isOpenIn_ok : zVI zmX1_isOpenIn := ⟨⟨⟨zT_of 328 (by decide +kernel) (by decide +kernel), zT_of 30 (by decide +kernel) (by decide +kernel)⟩, by decide +kernel, by decide +kernel, by decide +kernel⟩, zT_of 326 (by decide +kernel) (by decide +kernel), zT_of 327 (by decide +kernel) (by decide +kernel)⟩
def zmX5_locationIn : zM := (yX5_locationIn, cX5_locationIn, 2, (some FieldType.int), 2)
theorem zmX5_locationIn_ok : zVS zmX5_locationIn := ⟨⟨⟨zT_of 331 (by decide +kernel) (by decide +kernel), zT_of 18 (by decide +kernel) (by decide +kernel)⟩, by decide +kernel, by decide +kernel, by decide +kernel⟩, zT_of 330 (by decide +kernel) (by decide +kernel)⟩
def zmX1_guardAllows : zM := (yX1_guardAllows, cX1_guardAllows, 2, (some FieldType.boolean), 1)
theorem zmX1_guardAllows_ok : zVI zmX1_guardAllows := ⟨⟨⟨zT_of 336 (by decide +kernel) (by decide +kernel), zT_of 30 (by decide +kernel) (by decide +kernel)⟩, by decide +kernel, by decide +kernel, by decide +kernel⟩, zT_of 334 (by decide +kernel) (by decide +kernel), zT_of 4 (by decide +kernel) (by decide +kernel)⟩
def zmX5_valueIn : zM := (yX5_valueIn, cX5_valueIn, 2, (some FieldType.int), 2)
theorem zmX5_valueIn_ok : zVS zmX5_valueIn := ⟨⟨⟨zT_of 339 (by decide +kernel) (by decide +kernel), zT_of 18 (by decide +kernel) (by decide +kernel)⟩, by decide +kernel, by decide +kernel, by decide +kernel⟩, zT_of 338 (by decide +kernel) (by decide +kernel)⟩
def zmX1_afterDeed : zM := (yX1_afterDeed, cX1_afterDeed, 3, (some FieldType.int), 1)
theorem zmX1_afterDeed_ok : zVI zmX1_afterDeed := ⟨⟨⟨zT_of 343 (by decide +kernel) (by decide +kernel), zT_of 30 (by decide +kernel) (by decide +kernel)⟩, by decide +kernel, by decide +kernel, by decide +kernel⟩, zT_of 341 (by decide +kernel) (by decide +kernel), zT_of 342 (by decide +kernel) (by decide +kernel)⟩
def zmX5_isBetween : zM := (yX5_isBetween, cX5_isBetween, 3, (some FieldType.boolean), 3)
theorem zmX5_isBetween_ok : zVS zmX5_isBetween := ⟨⟨⟨zT_of 346 (by decide +kernel) (by decide +kernel), zT_of 18 (by decide +kernel) (by decide +kernel)⟩, by decide +kernel, by decide +kernel, by decide +kernel⟩, zT_of 345 (by decide +kernel) (by decide +kernel)⟩
def zmX3_addStepsBy : zM := (yX3_addStepsBy, cX3_addStepsBy, 9, none, 3)
theorem zmX3_addStepsBy_ok : zVI zmX3_addStepsBy := ⟨⟨⟨zT_of 351 (by decide +kernel) (by decide +kernel), zT_of 20 (by decide +kernel) (by decide +kernel)⟩, by decide +kernel, by decide +kernel, by decide +kernel⟩, zT_of 350 (by decide +kernel) (by decide +kernel), zT_of 5 (by decide +kernel) (by decide +kernel)⟩
def zmX1_afterGoing : zM := (yX1_afterGoing, cX1_afterGoing, 2, (some FieldType.int), 1)
theorem zmX1_afterGoing_ok : zVI zmX1_afterGoing := ⟨⟨⟨zT_of 356 (by decide +kernel) (by decide +kernel), zT_of 30 (by decide +kernel) (by decide +kernel)⟩, by decide +kernel, by decide +kernel, by decide +kernel⟩, zT_of 354 (by decide +kernel) (by decide +kernel), zT_of 355 (by decide +kernel) (by decide +kernel)⟩
def zmX5_withLocation : zM := (yX5_withLocation, cX5_withLocation, 4, (some FieldType.int), 3)
theorem zmX5_withLocation_ok : zVS zmX5_withLocation := ⟨⟨⟨zT_of 359 (by decide +kernel) (by decide +kernel), zT_of 18 (by decide +kernel) (by decide +kernel)⟩, by decide +kernel, by decide +kernel, by decide +kernel⟩, zT_of 358 (by decide +kernel) (by decide +kernel)⟩
def zmX3_packedMover : zM := (yX3_packedMover, cX3_packedMover, 1, (some FieldType.int), 1)
theorem zmX3_packedMover_ok : zVS zmX3_packedMover := ⟨⟨⟨zT_of 362 (by decide +kernel) (by decide +kernel), zT_of 20 (by decide +kernel) (by decide +kernel)⟩, by decide +kernel, by decide +kernel, by decide +kernel⟩, zT_of 361 (by decide +kernel) (by decide +kernel)⟩
def zmX3_addStep : zM := (yX3_addStep, cX3_addStep, 5, none, 3)
theorem zmX3_addStep_ok : zVI zmX3_addStep := ⟨⟨⟨zT_of 366 (by decide +kernel) (by decide +kernel), zT_of 20 (by decide +kernel) (by decide +kernel)⟩, by decide +kernel, by decide +kernel, by decide +kernel⟩, zT_of 365 (by decide +kernel) (by decide +kernel), zT_of 6 (by decide +kernel) (by decide +kernel)⟩
def zmX3_numberOf : zM := (yX3_numberOf, cX3_numberOf, 4, (some FieldType.int), 2)
theorem zmX3_numberOf_ok : zVI zmX3_numberOf := ⟨⟨⟨zT_of 370 (by decide +kernel) (by decide +kernel), zT_of 20 (by decide +kernel) (by decide +kernel)⟩, by decide +kernel, by decide +kernel, by decide +kernel⟩, zT_of 369 (by decide +kernel) (by decide +kernel), zT_of 7 (by decide +kernel) (by decide +kernel)⟩
def zmJ9_min_7cf53 : zM := (yJ9_min_7cf53, cJ9_min_7cf53, 2, (some FieldType.int), 2)
theorem zmJ9_min_7cf53_ok : zVS zmJ9_min_7cf53 := ⟨⟨⟨zT_of 374 (by decide +kernel) (by decide +kernel), zT_of 32 (by decide +kernel) (by decide +kernel)⟩, by decide +kernel, by decide +kernel, by decide +kernel⟩, zT_of 373 (by decide +kernel) (by decide +kernel)⟩
def zmJ7_copyOf_59c91 : zM := (yJ7_copyOf_59c91, cJ7_copyOf_59c91, 3, (some (FieldType.array FieldType.int)), 2)
theorem zmJ7_copyOf_59c91_ok : zVS zmJ7_copyOf_59c91 := ⟨⟨⟨zT_of 377 (by decide +kernel) (by decide +kernel), zT_of 31 (by decide +kernel) (by decide +kernel)⟩, by decide +kernel, by decide +kernel, by decide +kernel⟩, zT_of 376 (by decide +kernel) (by decide +kernel)⟩
def zmX3_takersOf : zM := (yX3_takersOf, cX3_takersOf, 2, (some FieldType.int), 1)
theorem zmX3_takersOf_ok : zVS zmX3_takersOf := ⟨⟨⟨zT_of 391 (by decide +kernel) (by decide +kernel), zT_of 20 (by decide +kernel) (by decide +kernel)⟩, by decide +kernel, by decide +kernel, by decide +kernel⟩, zT_of 390 (by decide +kernel) (by decide +kernel)⟩
def zmX3_partOf : zM := (yX3_partOf, cX3_partOf, 2, (some FieldType.int), 2)
theorem zmX3_partOf_ok : zVS zmX3_partOf := ⟨⟨⟨zT_of 394 (by decide +kernel) (by decide +kernel), zT_of 20 (by decide +kernel) (by decide +kernel)⟩, by decide +kernel, by decide +kernel, by decide +kernel⟩, zT_of 393 (by decide +kernel) (by decide +kernel)⟩
def zmX3_packedOther : zM := (yX3_packedOther, cX3_packedOther, 1, (some FieldType.int), 1)
theorem zmX3_packedOther_ok : zVS zmX3_packedOther := ⟨⟨⟨zT_of 397 (by decide +kernel) (by decide +kernel), zT_of 20 (by decide +kernel) (by decide +kernel)⟩, by decide +kernel, by decide +kernel, by decide +kernel⟩, zT_of 396 (by decide +kernel) (by decide +kernel)⟩
def zmX5_state : zM := (yX5_state, cX5_state, 3, (some FieldType.int), 2)
theorem zmX5_state_ok : zVI zmX5_state := ⟨⟨⟨zT_of 401 (by decide +kernel) (by decide +kernel), zT_of 18 (by decide +kernel) (by decide +kernel)⟩, by decide +kernel, by decide +kernel, by decide +kernel⟩, zT_of 399 (by decide +kernel) (by decide +kernel), zT_of 400 (by decide +kernel) (by decide +kernel)⟩
def zmX3_hasState : zM := (yX3_hasState, cX3_hasState, 2, (some FieldType.boolean), 1)
theorem zmX3_hasState_ok : zVI zmX3_hasState := ⟨⟨⟨zT_of 405 (by decide +kernel) (by decide +kernel), zT_of 20 (by decide +kernel) (by decide +kernel)⟩, by decide +kernel, by decide +kernel, by decide +kernel⟩, zT_of 403 (by decide +kernel) (by decide +kernel), zT_of 404 (by decide +kernel) (by decide +kernel)⟩
def zmX3_stepsOf : zM := (yX3_stepsOf, cX3_stepsOf, 2, (some FieldType.int), 1)
theorem zmX3_stepsOf_ok : zVI zmX3_stepsOf := ⟨⟨⟨zT_of 425 (by decide +kernel) (by decide +kernel), zT_of 20 (by decide +kernel) (by decide +kernel)⟩, by decide +kernel, by decide +kernel, by decide +kernel⟩, zT_of 423 (by decide +kernel) (by decide +kernel), zT_of 424 (by decide +kernel) (by decide +kernel)⟩
def zmX3_depthOf : zM := (yX3_depthOf, cX3_depthOf, 2, (some FieldType.int), 1)
theorem zmX3_depthOf_ok : zVI zmX3_depthOf := ⟨⟨⟨zT_of 429 (by decide +kernel) (by decide +kernel), zT_of 20 (by decide +kernel) (by decide +kernel)⟩, by decide +kernel, by decide +kernel, by decide +kernel⟩, zT_of 427 (by decide +kernel) (by decide +kernel), zT_of 428 (by decide +kernel) (by decide +kernel)⟩
def zmX3_keyOf : zM := (yX3_keyOf, cX3_keyOf, 2, (some FieldType.int), 1)
theorem zmX3_keyOf_ok : zVI zmX3_keyOf := ⟨⟨⟨zT_of 434 (by decide +kernel) (by decide +kernel), zT_of 20 (by decide +kernel) (by decide +kernel)⟩, by decide +kernel, by decide +kernel, by decide +kernel⟩, zT_of 432 (by decide +kernel) (by decide +kernel), zT_of 433 (by decide +kernel) (by decide +kernel)⟩
def zmX2_hasVariable : zM := (yX2_hasVariable, cX2_hasVariable, 2, (some FieldType.boolean), 1)
theorem zmX2_hasVariable_ok : zVI zmX2_hasVariable := ⟨⟨⟨zT_of 439 (by decide +kernel) (by decide +kernel), zT_of 19 (by decide +kernel) (by decide +kernel)⟩, by decide +kernel, by decide +kernel, by decide +kernel⟩, zT_of 437 (by decide +kernel) (by decide +kernel), zT_of 438 (by decide +kernel) (by decide +kernel)⟩
def zmX5_step : zM := (yX5_step, cX5_step, 4, (some FieldType.int), 3)
theorem zmX5_step_ok : zVI zmX5_step := ⟨⟨⟨zT_of 445 (by decide +kernel) (by decide +kernel), zT_of 18 (by decide +kernel) (by decide +kernel)⟩, by decide +kernel, by decide +kernel, by decide +kernel⟩, zT_of 443 (by decide +kernel) (by decide +kernel), zT_of 444 (by decide +kernel) (by decide +kernel)⟩
def zmX3_packedStep : zM := (yX3_packedStep, cX3_packedStep, 3, (some FieldType.int), 2)
theorem zmX3_packedStep_ok : zVI zmX3_packedStep := ⟨⟨⟨zT_of 452 (by decide +kernel) (by decide +kernel), zT_of 20 (by decide +kernel) (by decide +kernel)⟩, by decide +kernel, by decide +kernel, by decide +kernel⟩, zT_of 450 (by decide +kernel) (by decide +kernel), zT_of 451 (by decide +kernel) (by decide +kernel)⟩
def zmX5_holds : zM := (yX5_holds, cX5_holds, 3, (some FieldType.boolean), 2)
theorem zmX5_holds_ok : zVI zmX5_holds := ⟨⟨⟨zT_of 457 (by decide +kernel) (by decide +kernel), zT_of 18 (by decide +kernel) (by decide +kernel)⟩, by decide +kernel, by decide +kernel, by decide +kernel⟩, zT_of 455 (by decide +kernel) (by decide +kernel), zT_of 456 (by decide +kernel) (by decide +kernel)⟩
def zmX0_hasFact : zM := (yX0_hasFact, cX0_hasFact, 2, (some FieldType.boolean), 1)
theorem zmX0_hasFact_ok : zVI zmX0_hasFact := ⟨⟨⟨zT_of 461 (by decide +kernel) (by decide +kernel), zT_of 21 (by decide +kernel) (by decide +kernel)⟩, by decide +kernel, by decide +kernel, by decide +kernel⟩, zT_of 459 (by decide +kernel) (by decide +kernel), zT_of 460 (by decide +kernel) (by decide +kernel)⟩
def zmX0_isTrueIn : zM := (yX0_isTrueIn, cX0_isTrueIn, 5, (some FieldType.boolean), 2)
theorem zmX0_isTrueIn_ok : zVI zmX0_isTrueIn := ⟨⟨⟨zT_of 466 (by decide +kernel) (by decide +kernel), zT_of 21 (by decide +kernel) (by decide +kernel)⟩, by decide +kernel, by decide +kernel, by decide +kernel⟩, zT_of 464 (by decide +kernel) (by decide +kernel), zT_of 465 (by decide +kernel) (by decide +kernel)⟩
def zmX0_isTrue : zM := (yX0_isTrue, cX0_isTrue, 6, (some FieldType.boolean), 3)
theorem zmX0_isTrue_ok : zVI zmX0_isTrue := ⟨⟨⟨zT_of 470 (by decide +kernel) (by decide +kernel), zT_of 21 (by decide +kernel) (by decide +kernel)⟩, by decide +kernel, by decide +kernel, by decide +kernel⟩, zT_of 469 (by decide +kernel) (by decide +kernel), zT_of 8 (by decide +kernel) (by decide +kernel)⟩
def zmX0_isKnown : zM := (yX0_isKnown, cX0_isKnown, 2, (some FieldType.boolean), 2)
theorem zmX0_isKnown_ok : zVS zmX0_isKnown := ⟨⟨⟨zT_of 475 (by decide +kernel) (by decide +kernel), zT_of 21 (by decide +kernel) (by decide +kernel)⟩, by decide +kernel, by decide +kernel, by decide +kernel⟩, zT_of 474 (by decide +kernel) (by decide +kernel)⟩
def zmX5_leads : zM := (yX5_leads, cX5_leads, 4, (some FieldType.int), 2)
theorem zmX5_leads_ok : zVI zmX5_leads := ⟨⟨⟨zT_of 479 (by decide +kernel) (by decide +kernel), zT_of 18 (by decide +kernel) (by decide +kernel)⟩, by decide +kernel, by decide +kernel, by decide +kernel⟩, zT_of 477 (by decide +kernel) (by decide +kernel), zT_of 478 (by decide +kernel) (by decide +kernel)⟩
def zmX3_isExplored : zM := (yX3_isExplored, cX3_isExplored, 1, (some FieldType.boolean), 0)
theorem zmX3_isExplored_ok : zVI zmX3_isExplored := ⟨⟨⟨zT_of 483 (by decide +kernel) (by decide +kernel), zT_of 20 (by decide +kernel) (by decide +kernel)⟩, by decide +kernel, by decide +kernel, by decide +kernel⟩, zT_of 481 (by decide +kernel) (by decide +kernel), zT_of 482 (by decide +kernel) (by decide +kernel)⟩
def zmX4_lookFor : zM := (yX4_lookFor, cX4_lookFor, 7, none, 4)
theorem zmX4_lookFor_ok : zVI zmX4_lookFor := ⟨⟨⟨zT_of 488 (by decide +kernel) (by decide +kernel), zT_of 22 (by decide +kernel) (by decide +kernel)⟩, by decide +kernel, by decide +kernel, by decide +kernel⟩, zT_of 486 (by decide +kernel) (by decide +kernel), zT_of 487 (by decide +kernel) (by decide +kernel)⟩
def zmX4_begin : zM := (yX4_begin, cX4_begin, 5, none, 3)
theorem zmX4_begin_ok : zVI zmX4_begin := ⟨⟨⟨zT_of 492 (by decide +kernel) (by decide +kernel), zT_of 22 (by decide +kernel) (by decide +kernel)⟩, by decide +kernel, by decide +kernel, by decide +kernel⟩, zT_of 491 (by decide +kernel) (by decide +kernel), zT_of 9 (by decide +kernel) (by decide +kernel)⟩
def zmX4_walkFrom : zM := (yX4_walkFrom, cX4_walkFrom, 8, none, 3)
theorem zmX4_walkFrom_ok : zVI zmX4_walkFrom := ⟨⟨⟨zT_of 498 (by decide +kernel) (by decide +kernel), zT_of 22 (by decide +kernel) (by decide +kernel)⟩, by decide +kernel, by decide +kernel, by decide +kernel⟩, zT_of 497 (by decide +kernel) (by decide +kernel), zT_of 10 (by decide +kernel) (by decide +kernel)⟩
def zmX4_enter : zM := (yX4_enter, cX4_enter, 2, none, 1)
theorem zmX4_enter_ok : zVI zmX4_enter := ⟨⟨⟨zT_of 502 (by decide +kernel) (by decide +kernel), zT_of 22 (by decide +kernel) (by decide +kernel)⟩, by decide +kernel, by decide +kernel, by decide +kernel⟩, zT_of 501 (by decide +kernel) (by decide +kernel), zT_of 11 (by decide +kernel) (by decide +kernel)⟩
def zmX4_follow : zM := (yX4_follow, cX4_follow, 3, none, 2)
theorem zmX4_follow_ok : zVI zmX4_follow := ⟨⟨⟨zT_of 509 (by decide +kernel) (by decide +kernel), zT_of 22 (by decide +kernel) (by decide +kernel)⟩, by decide +kernel, by decide +kernel, by decide +kernel⟩, zT_of 508 (by decide +kernel) (by decide +kernel), zT_of 12 (by decide +kernel) (by decide +kernel)⟩
def zmX4_leave : zM := (yX4_leave, cX4_leave, 3, none, 1)
theorem zmX4_leave_ok : zVI zmX4_leave := ⟨⟨⟨zT_of 514 (by decide +kernel) (by decide +kernel), zT_of 22 (by decide +kernel) (by decide +kernel)⟩, by decide +kernel, by decide +kernel, by decide +kernel⟩, zT_of 513 (by decide +kernel) (by decide +kernel), zT_of 13 (by decide +kernel) (by decide +kernel)⟩
def zmX4_close : zM := (yX4_close, cX4_close, 8, none, 3)
theorem zmX4_close_ok : zVI zmX4_close := ⟨⟨⟨zT_of 518 (by decide +kernel) (by decide +kernel), zT_of 22 (by decide +kernel) (by decide +kernel)⟩, by decide +kernel, by decide +kernel, by decide +kernel⟩, zT_of 517 (by decide +kernel) (by decide +kernel), zT_of 14 (by decide +kernel) (by decide +kernel)⟩
def zmX4_lookAt : zM := (yX4_lookAt, cX4_lookAt, 7, none, 2)
theorem zmX4_lookAt_ok : zVI zmX4_lookAt := ⟨⟨⟨zT_of 522 (by decide +kernel) (by decide +kernel), zT_of 22 (by decide +kernel) (by decide +kernel)⟩, by decide +kernel, by decide +kernel, by decide +kernel⟩, zT_of 521 (by decide +kernel) (by decide +kernel), zT_of 15 (by decide +kernel) (by decide +kernel)⟩
def zmX3_takersIn : zM := (yX3_takersIn, cX3_takersIn, 2, (some FieldType.int), 1)
theorem zmX3_takersIn_ok : zVI zmX3_takersIn := ⟨⟨⟨zT_of 526 (by decide +kernel) (by decide +kernel), zT_of 20 (by decide +kernel) (by decide +kernel)⟩, by decide +kernel, by decide +kernel, by decide +kernel⟩, zT_of 524 (by decide +kernel) (by decide +kernel), zT_of 525 (by decide +kernel) (by decide +kernel)⟩
def zmX4_isBadState : zM := (yX4_isBadState, cX4_isBadState, 2, (some FieldType.boolean), 1)
theorem zmX4_isBadState_ok : zVI zmX4_isBadState := ⟨⟨⟨zT_of 531 (by decide +kernel) (by decide +kernel), zT_of 22 (by decide +kernel) (by decide +kernel)⟩, by decide +kernel, by decide +kernel, by decide +kernel⟩, zT_of 529 (by decide +kernel) (by decide +kernel), zT_of 530 (by decide +kernel) (by decide +kernel)⟩
def zmX5_isBad : zM := (yX5_isBad, cX5_isBad, 3, (some FieldType.boolean), 2)
theorem zmX5_isBad_ok : zVI zmX5_isBad := ⟨⟨⟨zT_of 535 (by decide +kernel) (by decide +kernel), zT_of 18 (by decide +kernel) (by decide +kernel)⟩, by decide +kernel, by decide +kernel, by decide +kernel⟩, zT_of 533 (by decide +kernel) (by decide +kernel), zT_of 534 (by decide +kernel) (by decide +kernel)⟩
def zmX5_way : zM := (yX5_way, cX5_way, 5, (some FieldType.int), 3)
theorem zmX5_way_ok : zVI zmX5_way := ⟨⟨⟨zT_of 539 (by decide +kernel) (by decide +kernel), zT_of 18 (by decide +kernel) (by decide +kernel)⟩, by decide +kernel, by decide +kernel, by decide +kernel⟩, zT_of 537 (by decide +kernel) (by decide +kernel), zT_of 538 (by decide +kernel) (by decide +kernel)⟩
def zmX3_onTheWay : zM := (yX3_onTheWay, cX3_onTheWay, 5, (some FieldType.int), 2)
theorem zmX3_onTheWay_ok : zVI zmX3_onTheWay := ⟨⟨⟨zT_of 545 (by decide +kernel) (by decide +kernel), zT_of 20 (by decide +kernel) (by decide +kernel)⟩, by decide +kernel, by decide +kernel, by decide +kernel⟩, zT_of 543 (by decide +kernel) (by decide +kernel), zT_of 544 (by decide +kernel) (by decide +kernel)⟩
def zmX3_parentOf : zM := (yX3_parentOf, cX3_parentOf, 2, (some FieldType.int), 1)
theorem zmX3_parentOf_ok : zVI zmX3_parentOf := ⟨⟨⟨zT_of 549 (by decide +kernel) (by decide +kernel), zT_of 20 (by decide +kernel) (by decide +kernel)⟩, by decide +kernel, by decide +kernel, by decide +kernel⟩, zT_of 547 (by decide +kernel) (by decide +kernel), zT_of 548 (by decide +kernel) (by decide +kernel)⟩
def zmX3_parentStepOf : zM := (yX3_parentStepOf, cX3_parentStepOf, 2, (some FieldType.int), 1)
theorem zmX3_parentStepOf_ok : zVI zmX3_parentStepOf := ⟨⟨⟨zT_of 553 (by decide +kernel) (by decide +kernel), zT_of 20 (by decide +kernel) (by decide +kernel)⟩, by decide +kernel, by decide +kernel, by decide +kernel⟩, zT_of 551 (by decide +kernel) (by decide +kernel), zT_of 552 (by decide +kernel) (by decide +kernel)⟩
def zmX6_more : zM := (yX6_more, cX6_more, 4, (some (FieldType.array FieldType.int)), 2)
theorem zmX6_more_ok : zVS zmX6_more := ⟨⟨⟨zT_of 556 (by decide +kernel) (by decide +kernel), zT_of 23 (by decide +kernel) (by decide +kernel)⟩, by decide +kernel, by decide +kernel, by decide +kernel⟩, zT_of 555 (by decide +kernel) (by decide +kernel)⟩
def zmX6_explore : zM := (yX6_explore, cX6_explore, 13, (some FieldType.boolean), 1)
theorem zmX6_explore_ok : zVI zmX6_explore := ⟨⟨⟨zT_of 560 (by decide +kernel) (by decide +kernel), zT_of 23 (by decide +kernel) (by decide +kernel)⟩, by decide +kernel, by decide +kernel, by decide +kernel⟩, zT_of 558 (by decide +kernel) (by decide +kernel), zT_of 559 (by decide +kernel) (by decide +kernel)⟩
def zmX6_number : zM := (yX6_number, cX6_number, 5, (some FieldType.int), 3)
theorem zmX6_number_ok : zVI zmX6_number := ⟨⟨⟨zT_of 564 (by decide +kernel) (by decide +kernel), zT_of 23 (by decide +kernel) (by decide +kernel)⟩, by decide +kernel, by decide +kernel, by decide +kernel⟩, zT_of 562 (by decide +kernel) (by decide +kernel), zT_of 563 (by decide +kernel) (by decide +kernel)⟩
def zmX6_find : zM := (yX6_find, cX6_find, 5, (some FieldType.int), 1)
theorem zmX6_find_ok : zVI zmX6_find := ⟨⟨⟨zT_of 568 (by decide +kernel) (by decide +kernel), zT_of 23 (by decide +kernel) (by decide +kernel)⟩, by decide +kernel, by decide +kernel, by decide +kernel⟩, zT_of 566 (by decide +kernel) (by decide +kernel), zT_of 567 (by decide +kernel) (by decide +kernel)⟩
def zmX6_more_ : zM := (yX6_more_, cX6_more_, 4, (some (FieldType.array (FieldType.array FieldType.int))), 2)
theorem zmX6_more__ok : zVS zmX6_more_ := ⟨⟨⟨zT_of 571 (by decide +kernel) (by decide +kernel), zT_of 23 (by decide +kernel) (by decide +kernel)⟩, by decide +kernel, by decide +kernel, by decide +kernel⟩, zT_of 570 (by decide +kernel) (by decide +kernel)⟩
def zmX6_isOpen : zM := (yX6_isOpen, cX6_isOpen, 5, (some FieldType.boolean), 3)
theorem zmX6_isOpen_ok : zVI zmX6_isOpen := ⟨⟨⟨zT_of 578 (by decide +kernel) (by decide +kernel), zT_of 23 (by decide +kernel) (by decide +kernel)⟩, by decide +kernel, by decide +kernel, by decide +kernel⟩, zT_of 576 (by decide +kernel) (by decide +kernel), zT_of 577 (by decide +kernel) (by decide +kernel)⟩
def zmX6_done : zM := (yX6_done, cX6_done, 6, (some (FieldType.array FieldType.int)), 3)
theorem zmX6_done_ok : zVI zmX6_done := ⟨⟨⟨zT_of 582 (by decide +kernel) (by decide +kernel), zT_of 23 (by decide +kernel) (by decide +kernel)⟩, by decide +kernel, by decide +kernel, by decide +kernel⟩, zT_of 580 (by decide +kernel) (by decide +kernel), zT_of 581 (by decide +kernel) (by decide +kernel)⟩
def zmL_below : zM := (yL_below, cL_below, 2, (some FieldType.int), 2)
theorem zmL_below_ok : zVS zmL_below := ⟨⟨⟨zT_of 588 (by decide +kernel) (by decide +kernel), zT_of 17 (by decide +kernel) (by decide +kernel)⟩, by decide +kernel, by decide +kernel, by decide +kernel⟩, zT_of 587 (by decide +kernel) (by decide +kernel)⟩
def zmL_cell : zM := (yL_cell, cL_cell, 2, (some FieldType.int), 2)
theorem zmL_cell_ok : zVS zmL_cell := ⟨⟨⟨zT_of 592 (by decide +kernel) (by decide +kernel), zT_of 17 (by decide +kernel) (by decide +kernel)⟩, by decide +kernel, by decide +kernel, by decide +kernel⟩, zT_of 591 (by decide +kernel) (by decide +kernel)⟩
def zmL_build : zM := (yL_build, cL_build, 10, (some (FieldType.object "FairCheckerLaw$Hand")), 2)
theorem zmL_build_ok : zVS zmL_build := ⟨⟨⟨zT_of 596 (by decide +kernel) (by decide +kernel), zT_of 17 (by decide +kernel) (by decide +kernel)⟩, by decide +kernel, by decide +kernel, by decide +kernel⟩, zT_of 595 (by decide +kernel) (by decide +kernel)⟩
def zmX6_init : zM := (yX6_init, cX6_init, 1, none, 0)
theorem zmX6_init_ok : zVC zmX6_init := ⟨⟨⟨zT_of 601 (by decide +kernel) (by decide +kernel), zT_of 23 (by decide +kernel) (by decide +kernel)⟩, by decide +kernel, by decide +kernel, by decide +kernel⟩, zT_of 600 (by decide +kernel) (by decide +kernel), rfl, rfl⟩
def zmX5_addProcess : zM := (yX5_addProcess, cX5_addProcess, 2, (some FieldType.int), 1)
theorem zmX5_addProcess_ok : zVI zmX5_addProcess := ⟨⟨⟨zT_of 637 (by decide +kernel) (by decide +kernel), zT_of 18 (by decide +kernel) (by decide +kernel)⟩, by decide +kernel, by decide +kernel, by decide +kernel⟩, zT_of 635 (by decide +kernel) (by decide +kernel), zT_of 636 (by decide +kernel) (by decide +kernel)⟩
def zmX2_newProcess : zM := (yX2_newProcess, cX2_newProcess, 2, (some FieldType.int), 1)
theorem zmX2_newProcess_ok : zVI zmX2_newProcess := ⟨⟨⟨zT_of 659 (by decide +kernel) (by decide +kernel), zT_of 19 (by decide +kernel) (by decide +kernel)⟩, by decide +kernel, by decide +kernel, by decide +kernel⟩, zT_of 657 (by decide +kernel) (by decide +kernel), zT_of 658 (by decide +kernel) (by decide +kernel)⟩
def zmX5_addVariable : zM := (yX5_addVariable, cX5_addVariable, 3, (some FieldType.int), 2)
theorem zmX5_addVariable_ok : zVI zmX5_addVariable := ⟨⟨⟨zT_of 663 (by decide +kernel) (by decide +kernel), zT_of 18 (by decide +kernel) (by decide +kernel)⟩, by decide +kernel, by decide +kernel, by decide +kernel⟩, zT_of 661 (by decide +kernel) (by decide +kernel), zT_of 662 (by decide +kernel) (by decide +kernel)⟩
def zmX2_newVariable : zM := (yX2_newVariable, cX2_newVariable, 3, (some FieldType.int), 2)
theorem zmX2_newVariable_ok : zVI zmX2_newVariable := ⟨⟨⟨zT_of 670 (by decide +kernel) (by decide +kernel), zT_of 19 (by decide +kernel) (by decide +kernel)⟩, by decide +kernel, by decide +kernel, by decide +kernel⟩, zT_of 668 (by decide +kernel) (by decide +kernel), zT_of 669 (by decide +kernel) (by decide +kernel)⟩
def zmX5_addMove : zM := (yX5_addMove, cX5_addMove, 5, (some FieldType.int), 4)
theorem zmX5_addMove_ok : zVI zmX5_addMove := ⟨⟨⟨zT_of 674 (by decide +kernel) (by decide +kernel), zT_of 18 (by decide +kernel) (by decide +kernel)⟩, by decide +kernel, by decide +kernel, by decide +kernel⟩, zT_of 672 (by decide +kernel) (by decide +kernel), zT_of 673 (by decide +kernel) (by decide +kernel)⟩
def zmX2_hasLocation : zM := (yX2_hasLocation, cX2_hasLocation, 3, (some FieldType.boolean), 2)
theorem zmX2_hasLocation_ok : zVI zmX2_hasLocation := ⟨⟨⟨zT_of 679 (by decide +kernel) (by decide +kernel), zT_of 19 (by decide +kernel) (by decide +kernel)⟩, by decide +kernel, by decide +kernel, by decide +kernel⟩, zT_of 677 (by decide +kernel) (by decide +kernel), zT_of 678 (by decide +kernel) (by decide +kernel)⟩
def zmX2_newMove : zM := (yX2_newMove, cX2_newMove, 6, (some FieldType.int), 4)
theorem zmX2_newMove_ok : zVI zmX2_newMove := ⟨⟨⟨zT_of 687 (by decide +kernel) (by decide +kernel), zT_of 19 (by decide +kernel) (by decide +kernel)⟩, by decide +kernel, by decide +kernel, by decide +kernel⟩, zT_of 685 (by decide +kernel) (by decide +kernel), zT_of 686 (by decide +kernel) (by decide +kernel)⟩
def zmX1_init : zM := (yX1_init, cX1_init, 6, none, 5)
theorem zmX1_init_ok : zVC zmX1_init := ⟨⟨⟨zT_of 690 (by decide +kernel) (by decide +kernel), zT_of 30 (by decide +kernel) (by decide +kernel)⟩, by decide +kernel, by decide +kernel, by decide +kernel⟩, zT_of 689 (by decide +kernel) (by decide +kernel), rfl, rfl⟩
def zmX5_guard : zM := (yX5_guard, cX5_guard, 7, (some FieldType.int), 5)
theorem zmX5_guard_ok : zVI zmX5_guard := ⟨⟨⟨zT_of 735 (by decide +kernel) (by decide +kernel), zT_of 18 (by decide +kernel) (by decide +kernel)⟩, by decide +kernel, by decide +kernel, by decide +kernel⟩, zT_of 733 (by decide +kernel) (by decide +kernel), zT_of 734 (by decide +kernel) (by decide +kernel)⟩
def zmX1_setGuard : zM := (yX1_setGuard, cX1_setGuard, 5, (some FieldType.int), 3)
theorem zmX1_setGuard_ok : zVI zmX1_setGuard := ⟨⟨⟨zT_of 744 (by decide +kernel) (by decide +kernel), zT_of 30 (by decide +kernel) (by decide +kernel)⟩, by decide +kernel, by decide +kernel, by decide +kernel⟩, zT_of 742 (by decide +kernel) (by decide +kernel), zT_of 743 (by decide +kernel) (by decide +kernel)⟩
def zmX5_deed : zM := (yX5_deed, cX5_deed, 7, (some FieldType.int), 5)
theorem zmX5_deed_ok : zVI zmX5_deed := ⟨⟨⟨zT_of 748 (by decide +kernel) (by decide +kernel), zT_of 18 (by decide +kernel) (by decide +kernel)⟩, by decide +kernel, by decide +kernel, by decide +kernel⟩, zT_of 746 (by decide +kernel) (by decide +kernel), zT_of 747 (by decide +kernel) (by decide +kernel)⟩
def zmX2_greatestOf : zM := (yX2_greatestOf, cX2_greatestOf, 2, (some FieldType.int), 1)
theorem zmX2_greatestOf_ok : zVI zmX2_greatestOf := ⟨⟨⟨zT_of 754 (by decide +kernel) (by decide +kernel), zT_of 19 (by decide +kernel) (by decide +kernel)⟩, by decide +kernel, by decide +kernel, by decide +kernel⟩, zT_of 752 (by decide +kernel) (by decide +kernel), zT_of 753 (by decide +kernel) (by decide +kernel)⟩
def zmX1_setDeed : zM := (yX1_setDeed, cX1_setDeed, 6, (some FieldType.int), 4)
theorem zmX1_setDeed_ok : zVI zmX1_setDeed := ⟨⟨⟨zT_of 759 (by decide +kernel) (by decide +kernel), zT_of 30 (by decide +kernel) (by decide +kernel)⟩, by decide +kernel, by decide +kernel, by decide +kernel⟩, zT_of 757 (by decide +kernel) (by decide +kernel), zT_of 758 (by decide +kernel) (by decide +kernel)⟩
def zmL_facts : zM := (yL_facts, cL_facts, 13, (some (FieldType.array (FieldType.array FieldType.boolean))), 4)
theorem zmL_facts_ok : zVS zmL_facts := ⟨⟨⟨zT_of 763 (by decide +kernel) (by decide +kernel), zT_of 17 (by decide +kernel) (by decide +kernel)⟩, by decide +kernel, by decide +kernel, by decide +kernel⟩, zT_of 762 (by decide +kernel) (by decide +kernel)⟩
def zmX5_addFact : zM := (yX5_addFact, cX5_addFact, 4, (some FieldType.int), 3)
theorem zmX5_addFact_ok : zVI zmX5_addFact := ⟨⟨⟨zT_of 769 (by decide +kernel) (by decide +kernel), zT_of 18 (by decide +kernel) (by decide +kernel)⟩, by decide +kernel, by decide +kernel, by decide +kernel⟩, zT_of 767 (by decide +kernel) (by decide +kernel), zT_of 768 (by decide +kernel) (by decide +kernel)⟩
def zmX5_canBeFact : zM := (yX5_canBeFact, cX5_canBeFact, 4, (some FieldType.boolean), 3)
theorem zmX5_canBeFact_ok : zVI zmX5_canBeFact := ⟨⟨⟨zT_of 773 (by decide +kernel) (by decide +kernel), zT_of 18 (by decide +kernel) (by decide +kernel)⟩, by decide +kernel, by decide +kernel, by decide +kernel⟩, zT_of 772 (by decide +kernel) (by decide +kernel), zT_of 16 (by decide +kernel) (by decide +kernel)⟩
def zmX0_newFact : zM := (yX0_newFact, cX0_newFact, 4, (some FieldType.int), 3)
theorem zmX0_newFact_ok : zVI zmX0_newFact := ⟨⟨⟨zT_of 779 (by decide +kernel) (by decide +kernel), zT_of 21 (by decide +kernel) (by decide +kernel)⟩, by decide +kernel, by decide +kernel, by decide +kernel⟩, zT_of 777 (by decide +kernel) (by decide +kernel), zT_of 778 (by decide +kernel) (by decide +kernel)⟩
theorem zlL_73 : zLK RL 73 yX5_init := Or.inl (zT_of 36 (by decide +kernel) (by decide +kernel))
theorem zlL_78 : zLK RL 78 yX5_explore := Or.inl (zT_of 205 (by decide +kernel) (by decide +kernel))
theorem zlX5_141 : zLK RX5 141 yX4_forget := Or.inl (zT_of 277 (by decide +kernel) (by decide +kernel))
theorem zlX5_142 : zLK RX5 142 yX3_fill := Or.inl (zT_of 281 (by decide +kernel) (by decide +kernel))
theorem zlX3_51 : zLK RX3 51 yX3_forget := Or.inl (zT_of 285 (by decide +kernel) (by decide +kernel))
theorem zlX3_54 : zLK RX3 54 yJ7_fill_53178 := Or.inl (zT_of 289 (by decide +kernel) (by decide +kernel))
theorem zlX3_60 : zLK RX3 60 yX2_keyAtBeginning := Or.inl (zT_of 292 (by decide +kernel) (by decide +kernel))
theorem zlX3_66 : zLK RX3 66 yX3_slotOf := Or.inl (zT_of 299 (by decide +kernel) (by decide +kernel))
theorem zlX3_70 : zLK RX3 70 yX3_newState := Or.inl (zT_of 304 (by decide +kernel) (by decide +kernel))
theorem zlX3_74 : zLK RX3 74 yX3_addStepsOf := Or.inl (zT_of 308 (by decide +kernel) (by decide +kernel))
theorem zlX3_81 : zLK RX3 81 yX2_movesOf := Or.inl (zT_of 312 (by decide +kernel) (by decide +kernel))
theorem zlX2_34 : zLK RX2 34 yX2_hasProcess := Or.inl (zT_of 316 (by decide +kernel) (by decide +kernel))
theorem zlX3_84 : zLK RX3 84 yX2_find := Or.inl (zT_of 320 (by decide +kernel) (by decide +kernel))
theorem zlX2_44 : zLK RX2 44 yX2_movesOf := Or.inl (zT_of 324 (by decide +kernel) (by decide +kernel))
theorem zlX3_88 : zLK RX3 88 yX1_isOpenIn := Or.inl (zT_of 325 (by decide +kernel) (by decide +kernel))
theorem zlX1_52 : zLK RX1 52 yX1_guardAllows := Or.inl (zT_of 332 (by decide +kernel) (by decide +kernel))
theorem zlX1_56 : zLK RX1 56 yX1_afterDeed := Or.inl (zT_of 340 (by decide +kernel) (by decide +kernel))
theorem zlX3_94 : zLK RX3 94 yX3_addStepsBy := Or.inl (zT_of 348 (by decide +kernel) (by decide +kernel))
theorem zlX3_98 : zLK RX3 98 yX1_afterDeed := Or.inl (zT_of 352 (by decide +kernel) (by decide +kernel))
theorem zlX3_101 : zLK RX3 101 yX1_afterGoing := Or.inl (zT_of 353 (by decide +kernel) (by decide +kernel))
theorem zlX3_107 : zLK RX3 107 yX3_packedMover := Or.inl (zT_of 360 (by decide +kernel) (by decide +kernel))
theorem zlX3_111 : zLK RX3 111 yX3_addStep := Or.inl (zT_of 363 (by decide +kernel) (by decide +kernel))
theorem zlX3_124 : zLK RX3 124 yX3_numberOf := Or.inl (zT_of 367 (by decide +kernel) (by decide +kernel))
theorem zlX3_128 : zLK RX3 128 yJ9_min_7cf53 := Or.inl (zT_of 372 (by decide +kernel) (by decide +kernel))
theorem zlX3_133 : zLK RX3 133 yJ7_copyOf_59c91 := Or.inl (zT_of 375 (by decide +kernel) (by decide +kernel))
theorem zlJ7_304 : zLK RJ7 304 yJ9_min_7cf53 := Or.inl (zT_of 385 (by decide +kernel) (by decide +kernel))
theorem zlX3_137 : zLK RX3 137 yX3_takersOf := Or.inl (zT_of 389 (by decide +kernel) (by decide +kernel))
theorem zlX3_40 : zLK RX3 40 yX3_partOf := Or.inl (zT_of 392 (by decide +kernel) (by decide +kernel))
theorem zlX3_118 : zLK RX3 118 yX3_packedOther := Or.inl (zT_of 395 (by decide +kernel) (by decide +kernel))
theorem zlL_89 : zLK RL 89 yX5_state := Or.inl (zT_of 398 (by decide +kernel) (by decide +kernel))
theorem zlX5_146 : zLK RX5 146 yX3_hasState := Or.inl (zT_of 402 (by decide +kernel) (by decide +kernel))
theorem zlX5_151 : zLK RX5 151 yX3_stepsOf := Or.inl (zT_of 422 (by decide +kernel) (by decide +kernel))
theorem zlX5_154 : zLK RX5 154 yX3_depthOf := Or.inl (zT_of 426 (by decide +kernel) (by decide +kernel))
theorem zlX5_77 : zLK RX5 77 yX2_hasProcess := Or.inl (zT_of 430 (by decide +kernel) (by decide +kernel))
theorem zlX5_157 : zLK RX5 157 yX3_keyOf := Or.inl (zT_of 431 (by decide +kernel) (by decide +kernel))
theorem zlX5_160 : zLK RX5 160 yX5_locationIn := Or.inl (zT_of 435 (by decide +kernel) (by decide +kernel))
theorem zlX5_111 : zLK RX5 111 yX2_hasVariable := Or.inl (zT_of 436 (by decide +kernel) (by decide +kernel))
theorem zlX5_163 : zLK RX5 163 yX5_valueIn := Or.inl (zT_of 440 (by decide +kernel) (by decide +kernel))
theorem zlL_95 : zLK RL 95 yX5_step := Or.inl (zT_of 442 (by decide +kernel) (by decide +kernel))
theorem zlX5_37 : zLK RX5 37 yX5_isBetween := Or.inl (zT_of 446 (by decide +kernel) (by decide +kernel))
theorem zlX5_172 : zLK RX5 172 yX3_packedStep := Or.inl (zT_of 449 (by decide +kernel) (by decide +kernel))
theorem zlX5_175 : zLK RX5 175 yX3_partOf := Or.inl (zT_of 453 (by decide +kernel) (by decide +kernel))
theorem zlL_101 : zLK RL 101 yX5_holds := Or.inl (zT_of 454 (by decide +kernel) (by decide +kernel))
theorem zlX5_191 : zLK RX5 191 yX0_hasFact := Or.inl (zT_of 458 (by decide +kernel) (by decide +kernel))
theorem zlX5_196 : zLK RX5 196 yX0_isTrueIn := Or.inl (zT_of 463 (by decide +kernel) (by decide +kernel))
theorem zlX0_25 : zLK RX0 25 yX0_isTrue := Or.inl (zT_of 467 (by decide +kernel) (by decide +kernel))
theorem zlX0_29 : zLK RX0 29 yX0_isKnown := Or.inl (zT_of 473 (by decide +kernel) (by decide +kernel))
theorem zlL_98 : zLK RL 98 yX5_leads := Or.inl (zT_of 476 (by decide +kernel) (by decide +kernel))
theorem zlX5_199 : zLK RX5 199 yX3_isExplored := Or.inl (zT_of 480 (by decide +kernel) (by decide +kernel))
theorem zlX5_214 : zLK RX5 214 yX4_lookFor := Or.inl (zT_of 485 (by decide +kernel) (by decide +kernel))
theorem zlX4_41 : zLK RX4 41 yX4_begin := Or.inl (zT_of 489 (by decide +kernel) (by decide +kernel))
theorem zlX4_54 : zLK RX4 54 yX3_keyOf := Or.inl (zT_of 493 (by decide +kernel) (by decide +kernel))
theorem zlX4_58 : zLK RX4 58 yX0_isTrueIn := Or.inl (zT_of 494 (by decide +kernel) (by decide +kernel))
theorem zlX4_50 : zLK RX4 50 yX4_walkFrom := Or.inl (zT_of 495 (by decide +kernel) (by decide +kernel))
theorem zlX4_76 : zLK RX4 76 yX4_enter := Or.inl (zT_of 499 (by decide +kernel) (by decide +kernel))
theorem zlX4_83 : zLK RX4 83 yX3_stepsOf := Or.inl (zT_of 503 (by decide +kernel) (by decide +kernel))
theorem zlX4_86 : zLK RX4 86 yX3_packedStep := Or.inl (zT_of 504 (by decide +kernel) (by decide +kernel))
theorem zlX4_90 : zLK RX4 90 yX3_partOf := Or.inl (zT_of 505 (by decide +kernel) (by decide +kernel))
theorem zlX4_93 : zLK RX4 93 yX4_follow := Or.inl (zT_of 506 (by decide +kernel) (by decide +kernel))
theorem zlX4_103 : zLK RX4 103 yJ9_min_7cf53 := Or.inl (zT_of 510 (by decide +kernel) (by decide +kernel))
theorem zlX4_97 : zLK RX4 97 yX4_leave := Or.inl (zT_of 511 (by decide +kernel) (by decide +kernel))
theorem zlX4_100 : zLK RX4 100 yX4_close := Or.inl (zT_of 515 (by decide +kernel) (by decide +kernel))
theorem zlX4_115 : zLK RX4 115 yX4_lookAt := Or.inl (zT_of 519 (by decide +kernel) (by decide +kernel))
theorem zlX4_119 : zLK RX4 119 yX3_takersIn := Or.inl (zT_of 523 (by decide +kernel) (by decide +kernel))
theorem zlX4_122 : zLK RX4 122 yX3_takersOf := Or.inl (zT_of 527 (by decide +kernel) (by decide +kernel))
theorem zlX5_218 : zLK RX5 218 yX4_isBadState := Or.inl (zT_of 528 (by decide +kernel) (by decide +kernel))
theorem zlL_105 : zLK RL 105 yX5_isBad := Or.inl (zT_of 532 (by decide +kernel) (by decide +kernel))
theorem zlL_92 : zLK RL 92 yX5_way := Or.inl (zT_of 536 (by decide +kernel) (by decide +kernel))
theorem zlX5_228 : zLK RX5 228 yX3_onTheWay := Or.inl (zT_of 542 (by decide +kernel) (by decide +kernel))
theorem zlX5_231 : zLK RX5 231 yX3_parentOf := Or.inl (zT_of 546 (by decide +kernel) (by decide +kernel))
theorem zlX5_234 : zLK RX5 234 yX3_parentStepOf := Or.inl (zT_of 550 (by decide +kernel) (by decide +kernel))
theorem zlL_26 : zLK RL 26 yX6_more := Or.inl (zT_of 554 (by decide +kernel) (by decide +kernel))
theorem zlL_82 : zLK RL 82 yX6_explore := Or.inl (zT_of 557 (by decide +kernel) (by decide +kernel))
theorem zlX6_58 : zLK RX6 58 yX6_number := Or.inl (zT_of 561 (by decide +kernel) (by decide +kernel))
theorem zlX6_47 : zLK RX6 47 yX6_find := Or.inl (zT_of 565 (by decide +kernel) (by decide +kernel))
theorem zlX6_51 : zLK RX6 51 yX6_more_ := Or.inl (zT_of 569 (by decide +kernel) (by decide +kernel))
theorem zlX6_55 : zLK RX6 55 yX6_more := Or.inl (zT_of 574 (by decide +kernel) (by decide +kernel))
theorem zlX6_62 : zLK RX6 62 yX6_isOpen := Or.inl (zT_of 575 (by decide +kernel) (by decide +kernel))
theorem zlX6_43 : zLK RX6 43 yX6_done := Or.inl (zT_of 579 (by decide +kernel) (by decide +kernel))
theorem zlL_18 : zLK RL 18 yL_below := Or.inl (zT_of 586 (by decide +kernel) (by decide +kernel))
theorem zlL_12 : zLK RL 12 yL_cell := Or.inl (zT_of 590 (by decide +kernel) (by decide +kernel))
theorem zlL_74 : zLK RL 74 yL_build := Or.inl (zT_of 594 (by decide +kernel) (by decide +kernel))
theorem zlL_30 : zLK RL 30 yX5_addProcess := Or.inl (zT_of 634 (by decide +kernel) (by decide +kernel))
theorem zlX5_57 : zLK RX5 57 yX3_forget := Or.inl (zT_of 655 (by decide +kernel) (by decide +kernel))
theorem zlX5_60 : zLK RX5 60 yX2_newProcess := Or.inl (zT_of 656 (by decide +kernel) (by decide +kernel))
theorem zlL_42 : zLK RL 42 yX5_addVariable := Or.inl (zT_of 660 (by decide +kernel) (by decide +kernel))
theorem zlX5_73 : zLK RX5 73 yX2_newVariable := Or.inl (zT_of 667 (by decide +kernel) (by decide +kernel))
theorem zlL_45 : zLK RL 45 yX5_addMove := Or.inl (zT_of 671 (by decide +kernel) (by decide +kernel))
theorem zlX5_86 : zLK RX5 86 yX2_hasLocation := Or.inl (zT_of 676 (by decide +kernel) (by decide +kernel))
theorem zlX5_94 : zLK RX5 94 yX2_movesOf := Or.inl (zT_of 682 (by decide +kernel) (by decide +kernel))
theorem zlX5_99 : zLK RX5 99 yX2_newMove := Or.inl (zT_of 684 (by decide +kernel) (by decide +kernel))
theorem zlX2_48 : zLK RX2 48 yX1_init := Or.inl (zT_of 688 (by decide +kernel) (by decide +kernel))
theorem zlL_49 : zLK RL 49 yX5_guard := Or.inl (zT_of 732 (by decide +kernel) (by decide +kernel))
theorem zlX5_103 : zLK RX5 103 yX2_find := Or.inl (zT_of 736 (by decide +kernel) (by decide +kernel))
theorem zlX5_118 : zLK RX5 118 yX1_setGuard := Or.inl (zT_of 741 (by decide +kernel) (by decide +kernel))
theorem zlL_53 : zLK RL 53 yX5_deed := Or.inl (zT_of 745 (by decide +kernel) (by decide +kernel))
theorem zlX5_128 : zLK RX5 128 yX2_greatestOf := Or.inl (zT_of 751 (by decide +kernel) (by decide +kernel))
theorem zlX2_41 : zLK RX2 41 yX2_hasVariable := Or.inl (zT_of 755 (by decide +kernel) (by decide +kernel))
theorem zlX5_131 : zLK RX5 131 yX1_setDeed := Or.inl (zT_of 756 (by decide +kernel) (by decide +kernel))
theorem zlL_60 : zLK RL 60 yX6_more_ := Or.inl (zT_of 760 (by decide +kernel) (by decide +kernel))
theorem zlL_85 : zLK RL 85 yL_facts := Or.inl (zT_of 761 (by decide +kernel) (by decide +kernel))
theorem zlL_69 : zLK RL 69 yX5_addFact := Or.inl (zT_of 766 (by decide +kernel) (by decide +kernel))
theorem zlX5_178 : zLK RX5 178 yX5_canBeFact := Or.inl (zT_of 770 (by decide +kernel) (by decide +kernel))
theorem zlX5_188 : zLK RX5 188 yX0_newFact := Or.inl (zT_of 776 (by decide +kernel) (by decide +kernel))
theorem zlX5_11 : zLK RX5 11 yX2_init := Or.inr ⟨"FairChecker", by decide +kernel⟩
theorem zlX5_18 : zLK RX5 18 yX3_init := Or.inr ⟨"FairChecker", by decide +kernel⟩
theorem zlX5_25 : zLK RX5 25 yX0_init := Or.inr ⟨"FairChecker", by decide +kernel⟩
theorem zlX5_32 : zLK RX5 32 yX4_init := Or.inr ⟨"FairChecker", by decide +kernel⟩
theorem zlX2_51 : zLK RX2 51 yX5_withValue := Or.inr ⟨"FairChecker", by decide +kernel⟩
theorem zlX1_48 : zLK RX1 48 yX5_locationIn := Or.inr ⟨"FairChecker", by decide +kernel⟩
theorem zlX1_60 : zLK RX1 60 yX5_valueIn := Or.inr ⟨"FairChecker", by decide +kernel⟩
theorem zlX1_63 : zLK RX1 63 yX5_isBetween := Or.inr ⟨"FairChecker", by decide +kernel⟩
theorem zlX1_67 : zLK RX1 67 yX5_withValue := Or.inr ⟨"FairChecker", by decide +kernel⟩
theorem zlX1_71 : zLK RX1 71 yX5_withLocation := Or.inr ⟨"FairChecker", by decide +kernel⟩
theorem zlX0_33 : zLK RX0 33 yX5_locationIn := Or.inr ⟨"FairChecker", by decide +kernel⟩
theorem zlX0_37 : zLK RX0 37 yX5_valueIn := Or.inr ⟨"FairChecker", by decide +kernel⟩
theorem zlL_11 : zLK RL 11 yX6_init := Or.inr ⟨"FairCheckerLaw", by decide +kernel⟩
theorem zfX2_9 : zFL RX2 9 2 0 := ⟨by decide, Or.inl (zT_of 50 (by decide +kernel) (by decide +kernel))⟩
theorem zfX2_15 : zFL RX2 15 2 1 := ⟨by decide, Or.inl (zT_of 51 (by decide +kernel) (by decide +kernel))⟩
theorem zfX2_20 : zFL RX2 20 2 2 := ⟨by decide, Or.inl (zT_of 52 (by decide +kernel) (by decide +kernel))⟩
theorem zfX2_24 : zFL RX2 24 2 3 := ⟨by decide, Or.inl (zT_of 53 (by decide +kernel) (by decide +kernel))⟩
theorem zfX2_27 : zFL RX2 27 2 4 := ⟨by decide, Or.inl (zT_of 54 (by decide +kernel) (by decide +kernel))⟩
theorem zfX2_30 : zFL RX2 30 2 5 := ⟨by decide, Or.inl (zT_of 55 (by decide +kernel) (by decide +kernel))⟩
theorem zfX2_38 : zFL RX2 38 2 6 := ⟨by decide, Or.inl (zT_of 59 (by decide +kernel) (by decide +kernel))⟩
theorem zfX3_11 : zFL RX3 11 3 0 := ⟨by decide, Or.inl (zT_of 82 (by decide +kernel) (by decide +kernel))⟩
theorem zfX3_15 : zFL RX3 15 3 1 := ⟨by decide, Or.inl (zT_of 83 (by decide +kernel) (by decide +kernel))⟩
theorem zfX3_18 : zFL RX3 18 3 2 := ⟨by decide, Or.inl (zT_of 84 (by decide +kernel) (by decide +kernel))⟩
theorem zfX3_21 : zFL RX3 21 3 3 := ⟨by decide, Or.inl (zT_of 85 (by decide +kernel) (by decide +kernel))⟩
theorem zfX3_24 : zFL RX3 24 3 4 := ⟨by decide, Or.inl (zT_of 86 (by decide +kernel) (by decide +kernel))⟩
theorem zfX3_27 : zFL RX3 27 3 5 := ⟨by decide, Or.inl (zT_of 87 (by decide +kernel) (by decide +kernel))⟩
theorem zfX3_30 : zFL RX3 30 3 6 := ⟨by decide, Or.inl (zT_of 88 (by decide +kernel) (by decide +kernel))⟩
theorem zfX3_33 : zFL RX3 33 3 7 := ⟨by decide, Or.inl (zT_of 89 (by decide +kernel) (by decide +kernel))⟩
theorem zfX3_36 : zFL RX3 36 3 8 := ⟨by decide, Or.inl (zT_of 90 (by decide +kernel) (by decide +kernel))⟩
theorem zfX3_44 : zFL RX3 44 3 9 := ⟨by decide, Or.inl (zT_of 94 (by decide +kernel) (by decide +kernel))⟩
theorem zfX3_47 : zFL RX3 47 3 10 := ⟨by decide, Or.inl (zT_of 95 (by decide +kernel) (by decide +kernel))⟩
theorem zfX0_9 : zFL RX0 9 0 0 := ⟨by decide, Or.inl (zT_of 125 (by decide +kernel) (by decide +kernel))⟩
theorem zfX0_15 : zFL RX0 15 0 1 := ⟨by decide, Or.inl (zT_of 126 (by decide +kernel) (by decide +kernel))⟩
theorem zfX0_18 : zFL RX0 18 0 2 := ⟨by decide, Or.inl (zT_of 127 (by decide +kernel) (by decide +kernel))⟩
theorem zfX0_21 : zFL RX0 21 0 3 := ⟨by decide, Or.inl (zT_of 128 (by decide +kernel) (by decide +kernel))⟩
theorem zfX4_9 : zFL RX4 9 4 0 := ⟨by decide, Or.inl (zT_of 145 (by decide +kernel) (by decide +kernel))⟩
theorem zfX4_15 : zFL RX4 15 4 1 := ⟨by decide, Or.inl (zT_of 146 (by decide +kernel) (by decide +kernel))⟩
theorem zfX4_18 : zFL RX4 18 4 2 := ⟨by decide, Or.inl (zT_of 147 (by decide +kernel) (by decide +kernel))⟩
theorem zfX4_21 : zFL RX4 21 4 3 := ⟨by decide, Or.inl (zT_of 148 (by decide +kernel) (by decide +kernel))⟩
theorem zfX4_25 : zFL RX4 25 4 4 := ⟨by decide, Or.inl (zT_of 149 (by decide +kernel) (by decide +kernel))⟩
theorem zfX4_28 : zFL RX4 28 4 5 := ⟨by decide, Or.inl (zT_of 150 (by decide +kernel) (by decide +kernel))⟩
theorem zfX4_31 : zFL RX4 31 4 6 := ⟨by decide, Or.inl (zT_of 151 (by decide +kernel) (by decide +kernel))⟩
theorem zfX4_34 : zFL RX4 34 4 7 := ⟨by decide, Or.inl (zT_of 152 (by decide +kernel) (by decide +kernel))⟩
theorem zfX4_64 : zFL RX4 64 4 8 := ⟨by decide, Or.inl (zT_of 153 (by decide +kernel) (by decide +kernel))⟩
theorem zfX4_67 : zFL RX4 67 4 9 := ⟨by decide, Or.inl (zT_of 154 (by decide +kernel) (by decide +kernel))⟩
theorem zfX4_70 : zFL RX4 70 4 10 := ⟨by decide, Or.inl (zT_of 155 (by decide +kernel) (by decide +kernel))⟩
theorem zfX4_37 : zFL RX4 37 4 11 := ⟨by decide, Or.inl (zT_of 156 (by decide +kernel) (by decide +kernel))⟩
theorem zfX4_73 : zFL RX4 73 4 12 := ⟨by decide, Or.inl (zT_of 157 (by decide +kernel) (by decide +kernel))⟩
theorem zfX4_108 : zFL RX4 108 4 13 := ⟨by decide, Or.inl (zT_of 158 (by decide +kernel) (by decide +kernel))⟩
theorem zfX4_111 : zFL RX4 111 4 14 := ⟨by decide, Or.inl (zT_of 159 (by decide +kernel) (by decide +kernel))⟩
theorem zfX5_12 : zFL RX5 12 5 0 := ⟨by decide, Or.inl (zT_of 192 (by decide +kernel) (by decide +kernel))⟩
theorem zfX5_19 : zFL RX5 19 5 1 := ⟨by decide, Or.inl (zT_of 193 (by decide +kernel) (by decide +kernel))⟩
theorem zfX5_26 : zFL RX5 26 5 2 := ⟨by decide, Or.inl (zT_of 194 (by decide +kernel) (by decide +kernel))⟩
theorem zfX5_33 : zFL RX5 33 5 3 := ⟨by decide, Or.inl (zT_of 195 (by decide +kernel) (by decide +kernel))⟩
theorem zfX6_7 : zFL RX6 7 6 0 := ⟨by decide, Or.inl (zT_of 604 (by decide +kernel) (by decide +kernel))⟩
theorem zfL_22 : zFL RL 22 6 0 := ⟨by decide, Or.inl (zT_of 605 (by decide +kernel) (by decide +kernel))⟩
theorem zfX6_13 : zFL RX6 13 6 1 := ⟨by decide, Or.inl (zT_of 606 (by decide +kernel) (by decide +kernel))⟩
theorem zfL_36 : zFL RL 36 6 1 := ⟨by decide, Or.inl (zT_of 607 (by decide +kernel) (by decide +kernel))⟩
theorem zfX6_16 : zFL RX6 16 6 2 := ⟨by decide, Or.inl (zT_of 608 (by decide +kernel) (by decide +kernel))⟩
theorem zfL_39 : zFL RL 39 6 2 := ⟨by decide, Or.inl (zT_of 609 (by decide +kernel) (by decide +kernel))⟩
theorem zfX6_21 : zFL RX6 21 6 3 := ⟨by decide, Or.inl (zT_of 610 (by decide +kernel) (by decide +kernel))⟩
theorem zfL_56 : zFL RL 56 6 3 := ⟨by decide, Or.inl (zT_of 611 (by decide +kernel) (by decide +kernel))⟩
theorem zfX6_25 : zFL RX6 25 6 4 := ⟨by decide, Or.inl (zT_of 612 (by decide +kernel) (by decide +kernel))⟩
theorem zfL_63 : zFL RL 63 6 4 := ⟨by decide, Or.inl (zT_of 613 (by decide +kernel) (by decide +kernel))⟩
theorem zfX6_30 : zFL RX6 30 6 5 := ⟨by decide, Or.inl (zT_of 614 (by decide +kernel) (by decide +kernel))⟩
theorem zfX6_33 : zFL RX6 33 6 6 := ⟨by decide, Or.inl (zT_of 615 (by decide +kernel) (by decide +kernel))⟩
theorem zfX6_36 : zFL RX6 36 6 7 := ⟨by decide, Or.inl (zT_of 616 (by decide +kernel) (by decide +kernel))⟩
theorem zfX1_9 : zFL RX1 9 1 0 := ⟨by decide, Or.inl (zT_of 692 (by decide +kernel) (by decide +kernel))⟩
theorem zfX1_15 : zFL RX1 15 1 1 := ⟨by decide, Or.inl (zT_of 694 (by decide +kernel) (by decide +kernel))⟩
theorem zfX1_18 : zFL RX1 18 1 2 := ⟨by decide, Or.inl (zT_of 696 (by decide +kernel) (by decide +kernel))⟩
theorem zfX1_21 : zFL RX1 21 1 3 := ⟨by decide, Or.inl (zT_of 697 (by decide +kernel) (by decide +kernel))⟩
theorem zfX1_24 : zFL RX1 24 1 4 := ⟨by decide, Or.inl (zT_of 698 (by decide +kernel) (by decide +kernel))⟩
theorem zfX1_27 : zFL RX1 27 1 5 := ⟨by decide, Or.inl (zT_of 700 (by decide +kernel) (by decide +kernel))⟩
theorem zfX1_30 : zFL RX1 30 1 6 := ⟨by decide, Or.inl (zT_of 701 (by decide +kernel) (by decide +kernel))⟩
theorem zfX1_33 : zFL RX1 33 1 7 := ⟨by decide, Or.inl (zT_of 702 (by decide +kernel) (by decide +kernel))⟩
theorem zfX1_36 : zFL RX1 36 1 8 := ⟨by decide, Or.inl (zT_of 703 (by decide +kernel) (by decide +kernel))⟩
theorem zfX1_39 : zFL RX1 39 1 9 := ⟨by decide, Or.inl (zT_of 704 (by decide +kernel) (by decide +kernel))⟩
theorem zfX1_42 : zFL RX1 42 1 10 := ⟨by decide, Or.inl (zT_of 705 (by decide +kernel) (by decide +kernel))⟩
theorem zfX1_45 : zFL RX1 45 1 11 := ⟨by decide, Or.inl (zT_of 706 (by decide +kernel) (by decide +kernel))⟩
theorem zfX5_48 : zFL RX5 48 2 5 := ⟨by decide, Or.inr ⟨"FairChecker", by decide +kernel⟩⟩
theorem zfX3_78 : zFL RX3 78 2 5 := ⟨by decide, Or.inr ⟨"FairChecker", by decide +kernel⟩⟩
theorem zfX5_68 : zFL RX5 68 2 6 := ⟨by decide, Or.inr ⟨"FairChecker", by decide +kernel⟩⟩
theorem zfX4_45 : zFL RX4 45 3 8 := ⟨by decide, Or.inr ⟨"FairChecker", by decide +kernel⟩⟩
theorem zfX5_211 : zFL RX5 211 3 8 := ⟨by decide, Or.inr ⟨"FairChecker", by decide +kernel⟩⟩
theorem zfX4_80 : zFL RX4 80 3 9 := ⟨by decide, Or.inr ⟨"FairChecker", by decide +kernel⟩⟩
theorem zfX5_183 : zFL RX5 183 0 3 := ⟨by decide, Or.inr ⟨"FairChecker", by decide +kernel⟩⟩
theorem zfX3_115 : zFL RX3 115 1 0 := ⟨by decide, Or.inr ⟨"FairChecker", by decide +kernel⟩⟩
theorem zfX3_121 : zFL RX3 121 1 1 := ⟨by decide, Or.inr ⟨"FairChecker", by decide +kernel⟩⟩
theorem zfX3_104 : zFL RX3 104 1 4 := ⟨by decide, Or.inr ⟨"FairChecker", by decide +kernel⟩⟩
def zNW (own : String) (ix c : Nat) : Prop := c < znC ∧ Cond.classLink own ix (zcl c).1 ∈ zT ∧ Cond.instantiable (zcl c).1 (zcl c).2.2 ∈ zT ∧ Cond.initialized (zcl c).1 ∈ zT
theorem znL_31 : zNW RL 31 5 := ⟨by decide, zT_of 34 (by decide +kernel) (by decide +kernel), zT_of 35 (by decide +kernel) (by decide +kernel), zT_of 18 (by decide +kernel) (by decide +kernel)⟩
theorem znX5_9 : zNW RX5 9 2 := ⟨by decide, zT_of 42 (by decide +kernel) (by decide +kernel), zT_of 43 (by decide +kernel) (by decide +kernel), zT_of 19 (by decide +kernel) (by decide +kernel)⟩
theorem znX2_18 : zNW RX2 18 1 := ⟨by decide, zT_of 48 (by decide +kernel) (by decide +kernel), zT_of 335 (by decide +kernel) (by decide +kernel), zT_of 30 (by decide +kernel) (by decide +kernel)⟩
theorem znX5_16 : zNW RX5 16 3 := ⟨by decide, zT_of 76 (by decide +kernel) (by decide +kernel), zT_of 77 (by decide +kernel) (by decide +kernel), zT_of 20 (by decide +kernel) (by decide +kernel)⟩
theorem znX5_23 : zNW RX5 23 0 := ⟨by decide, zT_of 119 (by decide +kernel) (by decide +kernel), zT_of 120 (by decide +kernel) (by decide +kernel), zT_of 21 (by decide +kernel) (by decide +kernel)⟩
theorem znX5_30 : zNW RX5 30 4 := ⟨by decide, zT_of 139 (by decide +kernel) (by decide +kernel), zT_of 140 (by decide +kernel) (by decide +kernel), zT_of 22 (by decide +kernel) (by decide +kernel)⟩
theorem znL_9 : zNW RL 9 6 := ⟨by decide, zT_of 597 (by decide +kernel) (by decide +kernel), zT_of 598 (by decide +kernel) (by decide +kernel), zT_of 23 (by decide +kernel) (by decide +kernel)⟩
theorem zkX3_140 : Cond.constant RX3 140 (-1640531535) ∈ zT := zT_of 303 (by decide +kernel) (by decide +kernel)
theorem zkX3_127 : Cond.constant RX3 127 (1024000) ∈ zT := zT_of 371 (by decide +kernel) (by decide +kernel)
theorem zkL_7 : Cond.constant RL 7 (2147483647) ∈ zT := zT_of 589 (by decide +kernel) (by decide +kernel)
theorem zkL_8 : Cond.constant RL 8 (790386105) ∈ zT := zT_of 593 (by decide +kernel) (by decide +kernel)
theorem zo_code : Cond.code objectInit ⟨#[0xb1]⟩ 1 none ∈ zT := zT_of 41 (by decide +kernel) (by decide +kernel)
theorem zo_inst : Cond.instanceMethod objectInit ∈ zT := zT_of 40 (by decide +kernel) (by decide +kernel)
theorem zoX5_3 : Cond.methodLink RX5 3 objectInit ∈ zT := zT_of 39 (by decide +kernel) (by decide +kernel)
theorem zoX2_3 : Cond.methodLink RX2 3 objectInit ∈ zT := zT_of 47 (by decide +kernel) (by decide +kernel)
theorem zoX3_5 : Cond.methodLink RX3 5 objectInit ∈ zT := zT_of 81 (by decide +kernel) (by decide +kernel)
theorem zoX0_3 : Cond.methodLink RX0 3 objectInit ∈ zT := zT_of 124 (by decide +kernel) (by decide +kernel)
theorem zoX4_3 : Cond.methodLink RX4 3 objectInit ∈ zT := zT_of 144 (by decide +kernel) (by decide +kernel)
theorem zoX6_1 : Cond.methodLink RX6 1 objectInit ∈ zT := zT_of 602 (by decide +kernel) (by decide +kernel)
theorem zoX1_3 : Cond.methodLink RX1 3 objectInit ∈ zT := zT_of 691 (by decide +kernel) (by decide +kernel)
theorem zdef_0 : ∀ k, k < (zcl 0).2.2 → defaultValue (zFT 0 k) = if (zFT 0 k).isReference = true then .null else .int 0 := by decide +kernel
theorem zdef_1 : ∀ k, k < (zcl 1).2.2 → defaultValue (zFT 1 k) = if (zFT 1 k).isReference = true then .null else .int 0 := by decide +kernel
theorem zdef_2 : ∀ k, k < (zcl 2).2.2 → defaultValue (zFT 2 k) = if (zFT 2 k).isReference = true then .null else .int 0 := by decide +kernel
theorem zdef_3 : ∀ k, k < (zcl 3).2.2 → defaultValue (zFT 3 k) = if (zFT 3 k).isReference = true then .null else .int 0 := by decide +kernel
theorem zdef_4 : ∀ k, k < (zcl 4).2.2 → defaultValue (zFT 4 k) = if (zFT 4 k).isReference = true then .null else .int 0 := by decide +kernel
theorem zdef_5 : ∀ k, k < (zcl 5).2.2 → defaultValue (zFT 5 k) = if (zFT 5 k).isReference = true then .null else .int 0 := by decide +kernel
theorem zdef_6 : ∀ k, k < (zcl 6).2.2 → defaultValue (zFT 6 k) = if (zFT 6 k).isReference = true then .null else .int 0 := by decide +kernel
theorem zmin_code : Cond.code Lib.Math.min.name Lib.Math.min.code 2 (some .int) ∈ zT := zT_of 374 (by decide +kernel) (by decide +kernel)
theorem zmin_static : Cond.static Lib.Math.min.name ∈ zT := zT_of 373 (by decide +kernel) (by decide +kernel)
theorem zmin_init : Cond.initialized "java/lang/Math" ∈ zT := zT_of 32 (by decide +kernel) (by decide +kernel)
theorem zac_native : Cond.native arraycopyName ∈ zT := zT_of 388 (by decide +kernel) (by decide +kernel)
theorem zac_static : Cond.static arraycopyName ∈ zT := zT_of 387 (by decide +kernel) (by decide +kernel)
theorem zac_init : Cond.initialized "java/lang/System" ∈ zT := zT_of 33 (by decide +kernel) (by decide +kernel)
theorem zminX3_128 : Cond.methodLink RX3 128 Lib.Math.min.name ∈ zT := zT_of 372 (by decide +kernel) (by decide +kernel)
theorem zminJ7_304 : Cond.methodLink RJ7 304 Lib.Math.min.name ∈ zT := zT_of 385 (by decide +kernel) (by decide +kernel)
theorem zacJ7_150 : Cond.methodLink RJ7 150 arraycopyName ∈ zT := zT_of 386 (by decide +kernel) (by decide +kernel)
theorem zminX4_103 : Cond.methodLink RX4 103 Lib.Math.min.name ∈ zT := zT_of 510 (by decide +kernel) (by decide +kernel)
theorem zaw_0 : Cond.arrayClass (FieldType.int) ∈ zT := zT_of 75 (by decide +kernel) (by decide +kernel)
theorem zaw_1 : Cond.arrayClass (FieldType.boolean) ∈ zT := zT_of 191 (by decide +kernel) (by decide +kernel)
theorem zaw_2 : Cond.arrayClass (FieldType.byte) ∈ zT := zT_of 276 (by decide +kernel) (by decide +kernel)
theorem zclL_31 : Cond.classLink RL 31 "FairChecker" ∈ zT := zT_of 34 (by decide +kernel) (by decide +kernel)
theorem zclX5_9 : Cond.classLink RX5 9 "FairChecker$Protocol" ∈ zT := zT_of 42 (by decide +kernel) (by decide +kernel)
theorem zclX2_18 : Cond.classLink RX2 18 "FairChecker$Move" ∈ zT := zT_of 48 (by decide +kernel) (by decide +kernel)
theorem zclX5_16 : Cond.classLink RX5 16 "FairChecker$StateSpace" ∈ zT := zT_of 76 (by decide +kernel) (by decide +kernel)
theorem zclX5_23 : Cond.classLink RX5 23 "FairChecker$Facts" ∈ zT := zT_of 119 (by decide +kernel) (by decide +kernel)
theorem zclX5_30 : Cond.classLink RX5 30 "FairChecker$Traps" ∈ zT := zT_of 139 (by decide +kernel) (by decide +kernel)
theorem zclX5_52 : Cond.classLink RX5 52 "java/lang/IllegalStateException" ∈ zT := zT_of 209 (by decide +kernel) (by decide +kernel)
theorem zclJ7_317 : Cond.classLink RJ7 317 "[I" ∈ zT := zT_of 384 (by decide +kernel) (by decide +kernel)
theorem zclX5_81 : Cond.classLink RX5 81 "java/lang/IndexOutOfBoundsException" ∈ zT := zT_of 406 (by decide +kernel) (by decide +kernel)
theorem zclX6_24 : Cond.classLink RX6 24 "[I" ∈ zT := zT_of 572 (by decide +kernel) (by decide +kernel)
theorem zclX6_29 : Cond.classLink RX6 29 "[[I" ∈ zT := zT_of 584 (by decide +kernel) (by decide +kernel)
theorem zclL_9 : Cond.classLink RL 9 "FairCheckerLaw$Hand" ∈ zT := zT_of 597 (by decide +kernel) (by decide +kernel)
theorem zclX6_19 : Cond.classLink RX6 19 "[[[I" ∈ zT := zT_of 603 (by decide +kernel) (by decide +kernel)
theorem zclX5_41 : Cond.classLink RX5 41 "java/lang/IllegalArgumentException" ∈ zT := zT_of 638 (by decide +kernel) (by decide +kernel)
theorem zclL_67 : Cond.classLink RL 67 "[[Z" ∈ zT := zT_of 764 (by decide +kernel) (by decide +kernel)
theorem zov_3 : Cond.arrayOver (FieldType.object "FairChecker$Move") ∈ lw_tbl := List.mem_of_getElem? (i := 49) (by decide +kernel)
theorem zov_4 : Cond.arrayOver (FieldType.array FieldType.int) ∈ lw_tbl := List.mem_of_getElem? (i := 573) (by decide +kernel)
theorem zov_5 : Cond.arrayOver (FieldType.array (FieldType.array FieldType.int)) ∈ lw_tbl := List.mem_of_getElem? (i := 585) (by decide +kernel)
theorem zov_6 : Cond.arrayOver (FieldType.array FieldType.boolean) ∈ lw_tbl := List.mem_of_getElem? (i := 765) (by decide +kernel)
end
section
/-- a row of ints may be cloned: this word isn't a good one, so it is carried -/
def zXS (U : State) : Prop := va_Nw (.castable "[I" "java/lang/Cloneable") U
theorem va_Nw.same2 {w : Cond} {s U : State} (hv : U.vm = s.vm) (h : va_Nw w s) (hw : w.onTables = true := by rfl) : va_Nw w U := va_tabs hw hv.symm h
theorem zXS.moved {s U : State} (hW : s.WarmedH U.vm) (h : zXS s) : zXS U := va_Nw.warmC hW h
theorem zXS.same {s U : State} (hv : U.vm = s.vm) (h : zXS s) : zXS U := va_Nw.same2 hv h
def zTh (b0 : Nat) (U : State) (H : Heap) : Prop := (b0, U.vm, H.size) = (b0, U.vm, H.size)
theorem zTh.moved {b0 : Nat} {u U : State} {H : Heap} (hvm : u.vm.Alike U.vm) (h : zTh b0 u H) : zTh b0 U H := rfl
theorem zTh.kept {b0 : Nat} {U : State} {H H1 : Heap} (h : zTh b0 U H) (hq : ∀ a : Nat, a < H.size → ¬ b0 < a → H1[a]? = H[a]?) : zTh b0 U H1 := rfl
def zTHR : List MethodName := []
def zHHs : List (MethodName × List (Nat × Nat × Nat × Nat)) := []
def zThW (own : String) (ik is ic : Nat) (k : UInt32) : Prop := (own, ik, is, ic, k) ≠ (own, ik, is, ic, k)
def zHH (y : MethodName) : List (Nat × Nat × Nat × Nat) := ((zHHs.find? (fun q => decide (q.1 = y))).map (·.2)).getD []
/-- a method with a table of handlers -/
def zWh (y : zM) : List Cond := .codeWith y.1 y.2.1 y.2.2.1 y.2.2.2.1 (zHH y.1) :: zT
def zVH (y : zM) : Prop := (Cond.codeWith y.1 y.2.1 y.2.2.1 y.2.2.2.1 (zHH y.1) ∈ zT ∧ Cond.initialized y.1.cls ∈ zT ∧ Cond.static y.1 ∈ zT) ∧ y.1.cls ≠ "java/lang/invoke/MethodHandle" ∧ y.1.cls ≠ "java/lang/invoke/VarHandle" ∧ (parseMethodDescriptor y.1.desc).map (fun d => d.parameters.length) = some y.2.2.2.2
def zmL_law : zM := (yL_law, cL_law, 9, (some FieldType.boolean), 1)
/-- a throw of the exception number k begins at pc -/
def zThr (y : zM) (pc : Nat) (k : UInt32) : Prop := y.1 ∈ zTHR ∧ ∃ ik is ic : Nat, decode y.2.1 pc = .ok (.new ik, 3) ∧ decode y.2.1 (pc + 3) = .ok (.dup, 1) ∧ decode y.2.1 (pc + 4) = .ok (.ldc is, 2) ∧ decode y.2.1 (pc + 6) = .ok (.invokespecial ic, 3) ∧ decode y.2.1 (pc + 9) = .ok (.athrow, 1) ∧ zThW y.1.cls ik is ic k
end
section
/-! THE Z LAYER. An abstract heap: ids 0, 1, 2 ..; id 0 is the script, id k > 0 lies at the address b0 + k. A kind below 100 is a class (its place in vwCl), 100 + t an array whose parts have the type zAT t, 999: nothing lies there yet. -/
abbrev zS : Type := (Nat → Nat) × (Nat → Nat) × (Nat → Nat → Nat → Int32) × (Nat → Nat → Nat → Option Nat) × (Nat → Nat → Int32) × (Nat → Nat → Option Nat) × (Nat → Nat → Int64) × Nat
def zK (σ : zS) : Nat → Nat := σ.1
def zL (σ : zS) : Nat → Nat := σ.2.1
def zF (σ : zS) : Nat → Nat → Nat → Int32 := σ.2.2.1
def zG (σ : zS) : Nat → Nat → Nat → Option Nat := σ.2.2.2.1
def zI (σ : zS) : Nat → Nat → Int32 := σ.2.2.2.2.1
def zR (σ : zS) : Nat → Nat → Option Nat := σ.2.2.2.2.2.1
def zJ (σ : zS) : Nat → Nat → Int64 := σ.2.2.2.2.2.2.1
def zn (σ : zS) : Nat := σ.2.2.2.2.2.2.2
def zsF (σ : zS) (c k a : Nat) (x : Int32) : zS := (zK σ, zL σ, fun c' k' a' => if c' = c ∧ k' = k ∧ a' = a then x else zF σ c' k' a', zG σ, zI σ, zR σ, zJ σ, zn σ)
def zsG (σ : zS) (c k a : Nat) (x : Option Nat) : zS := (zK σ, zL σ, zF σ, fun c' k' a' => if c' = c ∧ k' = k ∧ a' = a then x else zG σ c' k' a', zI σ, zR σ, zJ σ, zn σ)
def zsI (σ : zS) (a i : Nat) (x : Int32) : zS := (zK σ, zL σ, zF σ, zG σ, fun a' i' => if a' = a ∧ i' = i then x else zI σ a' i', zR σ, zJ σ, zn σ)
def zsR (σ : zS) (a i : Nat) (x : Option Nat) : zS := (zK σ, zL σ, zF σ, zG σ, zI σ, fun a' i' => if a' = a ∧ i' = i then x else zR σ a' i', zJ σ, zn σ)
def zsJ (σ : zS) (a i : Nat) (x : Int64) : zS := (zK σ, zL σ, zF σ, zG σ, zI σ, zR σ, fun a' i' => if a' = a ∧ i' = i then x else zJ σ a' i', zn σ)
/-- a whole row of ints -/
def zsW (σ : zS) (a : Nat) (f : Nat → Int32) : zS := (zK σ, zL σ, zF σ, zG σ, fun a' i' => if a' = a then f i' else zI σ a' i', zR σ, zJ σ, zn σ)
/-- a new object of the class c -/
def znC1 (σ : zS) (c : Nat) : zS := (fun a => if a = zn σ then c else zK σ a, zL σ, fun c' k' a' => if a' = zn σ then 0 else zF σ c' k' a', fun c' k' a' => if a' = zn σ then none else zG σ c' k' a', zI σ, zR σ, zJ σ, zn σ + 1)
/-- a new array, of kind 100 + t and of the length n -/
def znA1 (σ : zS) (t n : Nat) : zS := (fun a => if a = zn σ then 100 + t else zK σ a, fun a => if a = zn σ then n else zL σ a, zF σ, zG σ, fun a' i' => if a' = zn σ then 0 else zI σ a' i', fun a' i' => if a' = zn σ then none else zR σ a' i', fun a' i' => if a' = zn σ then 0 else zJ σ a' i', zn σ + 1)
/-- a new array of ints, with what it holds -/
def znA2 (σ : zS) (t n : Nat) (f : Nat → Int32) : zS := (fun a => if a = zn σ then 100 + t else zK σ a, fun a => if a = zn σ then n else zL σ a, zF σ, zG σ, fun a' i' => if a' = zn σ then f i' else zI σ a' i', zR σ, zJ σ, zn σ + 1)
theorem zK_zsF (σ : zS) (c k a : Nat) (x : Int32) : zK (zsF σ c k a x) = zK σ := (rfl)
theorem zL_zsF (σ : zS) (c k a : Nat) (x : Int32) : zL (zsF σ c k a x) = zL σ := (rfl)
theorem zG_zsF (σ : zS) (c k a : Nat) (x : Int32) : zG (zsF σ c k a x) = zG σ := (rfl)
theorem zI_zsF (σ : zS) (c k a : Nat) (x : Int32) : zI (zsF σ c k a x) = zI σ := (rfl)
theorem zR_zsF (σ : zS) (c k a : Nat) (x : Int32) : zR (zsF σ c k a x) = zR σ := (rfl)
theorem zJ_zsF (σ : zS) (c k a : Nat) (x : Int32) : zJ (zsF σ c k a x) = zJ σ := (rfl)
theorem zn_zsF (σ : zS) (c k a : Nat) (x : Int32) : zn (zsF σ c k a x) = zn σ := (rfl)
theorem zK_zsG (σ : zS) (c k a : Nat) (x : Option Nat) : zK (zsG σ c k a x) = zK σ := (rfl)
theorem zL_zsG (σ : zS) (c k a : Nat) (x : Option Nat) : zL (zsG σ c k a x) = zL σ := (rfl)
theorem zF_zsG (σ : zS) (c k a : Nat) (x : Option Nat) : zF (zsG σ c k a x) = zF σ := (rfl)
theorem zI_zsG (σ : zS) (c k a : Nat) (x : Option Nat) : zI (zsG σ c k a x) = zI σ := (rfl)
theorem zR_zsG (σ : zS) (c k a : Nat) (x : Option Nat) : zR (zsG σ c k a x) = zR σ := (rfl)
theorem zJ_zsG (σ : zS) (c k a : Nat) (x : Option Nat) : zJ (zsG σ c k a x) = zJ σ := (rfl)
theorem zn_zsG (σ : zS) (c k a : Nat) (x : Option Nat) : zn (zsG σ c k a x) = zn σ := (rfl)
theorem zK_zsI (σ : zS) (a i : Nat) (x : Int32) : zK (zsI σ a i x) = zK σ := (rfl)
theorem zL_zsI (σ : zS) (a i : Nat) (x : Int32) : zL (zsI σ a i x) = zL σ := (rfl)
theorem zF_zsI (σ : zS) (a i : Nat) (x : Int32) : zF (zsI σ a i x) = zF σ := (rfl)
theorem zG_zsI (σ : zS) (a i : Nat) (x : Int32) : zG (zsI σ a i x) = zG σ := (rfl)
theorem zR_zsI (σ : zS) (a i : Nat) (x : Int32) : zR (zsI σ a i x) = zR σ := (rfl)
theorem zJ_zsI (σ : zS) (a i : Nat) (x : Int32) : zJ (zsI σ a i x) = zJ σ := (rfl)
theorem zn_zsI (σ : zS) (a i : Nat) (x : Int32) : zn (zsI σ a i x) = zn σ := (rfl)
theorem zK_zsR (σ : zS) (a i : Nat) (x : Option Nat) : zK (zsR σ a i x) = zK σ := (rfl)
theorem zL_zsR (σ : zS) (a i : Nat) (x : Option Nat) : zL (zsR σ a i x) = zL σ := (rfl)
theorem zF_zsR (σ : zS) (a i : Nat) (x : Option Nat) : zF (zsR σ a i x) = zF σ := (rfl)
theorem zG_zsR (σ : zS) (a i : Nat) (x : Option Nat) : zG (zsR σ a i x) = zG σ := (rfl)
theorem zI_zsR (σ : zS) (a i : Nat) (x : Option Nat) : zI (zsR σ a i x) = zI σ := (rfl)
theorem zJ_zsR (σ : zS) (a i : Nat) (x : Option Nat) : zJ (zsR σ a i x) = zJ σ := (rfl)
theorem zn_zsR (σ : zS) (a i : Nat) (x : Option Nat) : zn (zsR σ a i x) = zn σ := (rfl)
theorem zK_zsJ (σ : zS) (a i : Nat) (x : Int64) : zK (zsJ σ a i x) = zK σ := (rfl)
theorem zL_zsJ (σ : zS) (a i : Nat) (x : Int64) : zL (zsJ σ a i x) = zL σ := (rfl)
theorem zF_zsJ (σ : zS) (a i : Nat) (x : Int64) : zF (zsJ σ a i x) = zF σ := (rfl)
theorem zG_zsJ (σ : zS) (a i : Nat) (x : Int64) : zG (zsJ σ a i x) = zG σ := (rfl)
theorem zI_zsJ (σ : zS) (a i : Nat) (x : Int64) : zI (zsJ σ a i x) = zI σ := (rfl)
theorem zR_zsJ (σ : zS) (a i : Nat) (x : Int64) : zR (zsJ σ a i x) = zR σ := (rfl)
theorem zn_zsJ (σ : zS) (a i : Nat) (x : Int64) : zn (zsJ σ a i x) = zn σ := (rfl)
theorem zK_zsW (σ : zS) (a : Nat) (f : Nat → Int32) : zK (zsW σ a f) = zK σ := (rfl)
theorem zL_zsW (σ : zS) (a : Nat) (f : Nat → Int32) : zL (zsW σ a f) = zL σ := (rfl)
theorem zF_zsW (σ : zS) (a : Nat) (f : Nat → Int32) : zF (zsW σ a f) = zF σ := (rfl)
theorem zG_zsW (σ : zS) (a : Nat) (f : Nat → Int32) : zG (zsW σ a f) = zG σ := (rfl)
theorem zR_zsW (σ : zS) (a : Nat) (f : Nat → Int32) : zR (zsW σ a f) = zR σ := (rfl)
theorem zJ_zsW (σ : zS) (a : Nat) (f : Nat → Int32) : zJ (zsW σ a f) = zJ σ := (rfl)
theorem zn_zsW (σ : zS) (a : Nat) (f : Nat → Int32) : zn (zsW σ a f) = zn σ := (rfl)
theorem zF_zsF (σ : zS) (c k a : Nat) (x : Int32) (c' k' a' : Nat) : zF (zsF σ c k a x) c' k' a' = if c' = c ∧ k' = k ∧ a' = a then x else zF σ c' k' a' := (rfl)
theorem zG_zsG (σ : zS) (c k a : Nat) (x : Option Nat) (c' k' a' : Nat) : zG (zsG σ c k a x) c' k' a' = if c' = c ∧ k' = k ∧ a' = a then x else zG σ c' k' a' := (rfl)
theorem zI_zsI (σ : zS) (a i : Nat) (x : Int32) (a' i' : Nat) : zI (zsI σ a i x) a' i' = if a' = a ∧ i' = i then x else zI σ a' i' := (rfl)
theorem zR_zsR (σ : zS) (a i : Nat) (x : Option Nat) (a' i' : Nat) : zR (zsR σ a i x) a' i' = if a' = a ∧ i' = i then x else zR σ a' i' := (rfl)
theorem zJ_zsJ (σ : zS) (a i : Nat) (x : Int64) (a' i' : Nat) : zJ (zsJ σ a i x) a' i' = if a' = a ∧ i' = i then x else zJ σ a' i' := (rfl)
theorem zI_zsW (σ : zS) (a : Nat) (f : Nat → Int32) (a' i' : Nat) : zI (zsW σ a f) a' i' = if a' = a then f i' else zI σ a' i' := (rfl)
theorem zK_znC1 (σ : zS) (c : Nat) (a : Nat) : zK (znC1 σ c) a = if a = zn σ then c else zK σ a := (rfl)
theorem zL_znC1 (σ : zS) (c : Nat) : zL (znC1 σ c) = zL σ := (rfl)
theorem zF_znC1 (σ : zS) (c : Nat) (c' k' a' : Nat) : zF (znC1 σ c) c' k' a' = if a' = zn σ then 0 else zF σ c' k' a' := (rfl)
theorem zG_znC1 (σ : zS) (c : Nat) (c' k' a' : Nat) : zG (znC1 σ c) c' k' a' = if a' = zn σ then none else zG σ c' k' a' := (rfl)
theorem zI_znC1 (σ : zS) (c : Nat) : zI (znC1 σ c) = zI σ := (rfl)
theorem zR_znC1 (σ : zS) (c : Nat) : zR (znC1 σ c) = zR σ := (rfl)
theorem zJ_znC1 (σ : zS) (c : Nat) : zJ (znC1 σ c) = zJ σ := (rfl)
theorem zn_znC1 (σ : zS) (c : Nat) : zn (znC1 σ c) = zn σ + 1 := (rfl)
theorem zK_znA1 (σ : zS) (t n : Nat) (a : Nat) : zK (znA1 σ t n) a = if a = zn σ then 100 + t else zK σ a := (rfl)
theorem zL_znA1 (σ : zS) (t n : Nat) (a : Nat) : zL (znA1 σ t n) a = if a = zn σ then n else zL σ a := (rfl)
theorem zF_znA1 (σ : zS) (t n : Nat) : zF (znA1 σ t n) = zF σ := (rfl)
theorem zG_znA1 (σ : zS) (t n : Nat) : zG (znA1 σ t n) = zG σ := (rfl)
theorem zI_znA1 (σ : zS) (t n : Nat) (a' i' : Nat) : zI (znA1 σ t n) a' i' = if a' = zn σ then 0 else zI σ a' i' := (rfl)
theorem zR_znA1 (σ : zS) (t n : Nat) (a' i' : Nat) : zR (znA1 σ t n) a' i' = if a' = zn σ then none else zR σ a' i' := (rfl)
theorem zJ_znA1 (σ : zS) (t n : Nat) (a' i' : Nat) : zJ (znA1 σ t n) a' i' = if a' = zn σ then 0 else zJ σ a' i' := (rfl)
theorem zn_znA1 (σ : zS) (t n : Nat) : zn (znA1 σ t n) = zn σ + 1 := (rfl)
theorem zK_znA2 (σ : zS) (t n : Nat) (f : Nat → Int32) (a : Nat) : zK (znA2 σ t n f) a = if a = zn σ then 100 + t else zK σ a := (rfl)
theorem zL_znA2 (σ : zS) (t n : Nat) (f : Nat → Int32) (a : Nat) : zL (znA2 σ t n f) a = if a = zn σ then n else zL σ a := (rfl)
theorem zF_znA2 (σ : zS) (t n : Nat) (f : Nat → Int32) : zF (znA2 σ t n f) = zF σ := (rfl)
theorem zG_znA2 (σ : zS) (t n : Nat) (f : Nat → Int32) : zG (znA2 σ t n f) = zG σ := (rfl)
theorem zI_znA2 (σ : zS) (t n : Nat) (f : Nat → Int32) (a' i' : Nat) : zI (znA2 σ t n f) a' i' = if a' = zn σ then f i' else zI σ a' i' := (rfl)
theorem zR_znA2 (σ : zS) (t n : Nat) (f : Nat → Int32) : zR (znA2 σ t n f) = zR σ := (rfl)
theorem zJ_znA2 (σ : zS) (t n : Nat) (f : Nat → Int32) : zJ (znA2 σ t n f) = zJ σ := (rfl)
theorem zn_znA2 (σ : zS) (t n : Nat) (f : Nat → Int32) : zn (znA2 σ t n f) = zn σ + 1 := (rfl)
def zWF (σ : zS) : Prop := 0 < zn σ ∧ zK σ 0 = 100 ∧ ∀ a, zn σ ≤ a → zK σ a = 999
theorem zWF_lt {σ : zS} (h : zWF σ) {a c : Nat} (hk : zK σ a = c) (hc : c ≠ 999) : a < zn σ := by
  rcases Nat.lt_or_ge a (zn σ) with q | q
  · exact q
  · exact absurd ((h.2.2 a q).symm.trans hk).symm hc
theorem zWF_ne {σ : zS} (h : zWF σ) {a c : Nat} (hk : zK σ a = c) (hc : c ≠ 999) : a ≠ zn σ := fun e => by
  have := zWF_lt h hk hc
  omega
theorem zWF_pos {σ : zS} (h : zWF σ) {a c : Nat} (hk : zK σ a = c) (hc : c ≠ 100) : 0 < a := by
  rcases Nat.eq_zero_or_pos a with q | q
  · subst q
    exact absurd (hk.symm.trans h.2.1) hc
  · exact q
theorem zWF_sF {σ : zS} (h : zWF σ) (c k a : Nat) (x : Int32) : zWF (zsF σ c k a x) := h
theorem zWF_sG {σ : zS} (h : zWF σ) (c k a : Nat) (x : Option Nat) : zWF (zsG σ c k a x) := h
theorem zWF_sI {σ : zS} (h : zWF σ) (a i : Nat) (x : Int32) : zWF (zsI σ a i x) := h
theorem zWF_sR {σ : zS} (h : zWF σ) (a i : Nat) (x : Option Nat) : zWF (zsR σ a i x) := h
theorem zWF_sJ {σ : zS} (h : zWF σ) (a i : Nat) (x : Int64) : zWF (zsJ σ a i x) := h
theorem zWF_sW {σ : zS} (h : zWF σ) (a : Nat) (f : Nat → Int32) : zWF (zsW σ a f) := h
theorem zWF_new {σ σ' : zS} (h : zWF σ) (c : Nat) (e1 : zK σ' = fun a => if a = zn σ then c else zK σ a) (e2 : zn σ' = zn σ + 1) : zWF σ' := by
  refine ⟨by rw [e2]; omega, ?_, fun a ha => ?_⟩
  · rw [e1]
    show (if 0 = zn σ then c else zK σ 0) = 100
    rw [if_neg (by have := h.1; omega)]
    exact h.2.1
  · rw [e2] at ha
    rw [e1]
    show (if a = zn σ then c else zK σ a) = 999
    rw [if_neg (by omega)]
    exact h.2.2 a (by omega)
theorem zWF_C1 {σ : zS} (h : zWF σ) (c : Nat) : zWF (znC1 σ c) := zWF_new h c rfl rfl
theorem zWF_A1 {σ : zS} (h : zWF σ) (t n : Nat) : zWF (znA1 σ t n) := zWF_new h (100 + t) rfl rfl
theorem zWF_A2 {σ : zS} (h : zWF σ) (t n : Nat) (f : Nat → Int32) : zWF (znA2 σ t n f) := zWF_new h (100 + t) rfl rfl
theorem zK_old {σ σ' : zS} (h : zWF σ) {c' : Nat} (e1 : zK σ' = fun a => if a = zn σ then c' else zK σ a) {a c : Nat} (hk : zK σ a = c) (hc : c ≠ 999) : zK σ' a = c := by
  rw [e1]
  show (if a = zn σ then c' else zK σ a) = c
  rw [if_neg (zWF_ne h hk hc)]
  exact hk
/-! ids to addresses -/
def zg (b b0 k : Nat) : Nat := if k = 0 then b else b0 + k
theorem zg_pos {b b0 k : Nat} (h : 0 < k) : zg b b0 k = b0 + k := if_neg (by omega)
def zv (g : Nat → Nat) (v : Value) : Value := match v with
  | .ref a => .ref (g a)
  | v => v
theorem zv_rf (g : Nat → Nat) (r : Option Nat) : zv g (va_rf r) = va_rf (r.map g) := by cases r <;> rfl
theorem zv_cat (g : Nat → Nat) (v : Value) : (zv g v).category = v.category := by cases v <;> rfl
def zir (c k : Nat) : Bool := (zFT c k).isReference
def zfv (σ : zS) (c k a : Nat) : Value := if zir c k = true then va_rf (zG σ c k a) else .int (zF σ c k a)
def zak (t : Nat) : Nat := if (zAT t).isReference = true then 2 else if zAT t = .long then 1 else 0
def zpay (g : Nat → Nat) (σ : zS) (a : Nat) : (Nat → Int32) ⊕ (Nat → Int64) ⊕ (Nat → UInt32) ⊕ (Nat → UInt64) ⊕ (Nat → Option Nat) :=
  if zak (zK σ a - 100) = 0 then .inl (zI σ a) else if zak (zK σ a - 100) = 1 then .inr (.inl (zJ σ a)) else .inr (.inr (.inr (.inr (fun i => (zR σ a i).map g))))
def zAt (D : va_G) (dt : Nat → ClassId) (g : Nat → Nat) (σ : zS) (a : Nat) (H : Heap) (q : Nat) : Prop :=
  if zK σ a < 100 then zK σ a < znC ∧ t_OB q (D.1 (zK σ a)) (zcl (zK σ a)).2.2 (D.2 (zK σ a)) H (fun j => zv g (zfv σ (zK σ a) j a))
  else zK σ a < 100 + znA ∧ H[q]? = some (vp_cell (dt (zK σ a - 100)) (zL σ a, zpay g σ a))
def zRep (D : va_G) (dt : Nat → ClassId) (b b0 : Nat) (σ : zS) (U : State) (H : Heap) : Prop :=
  zWF σ ∧ H.size = b0 + zn σ ∧ b ≤ b0 ∧ (∀ k, 0 < k → k < zn σ → zK σ k ≠ 998 → zAt D dt (zg b b0) σ k H (b0 + k)) ∧ va_X b (zL σ 0) (zI σ 0) U H ∧ zTh b0 U H
def zAOA (t : FieldType) (U : State) : Prop := (Cond.arrayOver (.array t)).before #[] U = true
def zOv (t : FieldType) (U : State) : Prop := match t with
  | .object C => va_AO C U
  | .array t => zAOA t U
  | _ => True
theorem zAOA.moved {t : FieldType} {u U : State} (hvm : u.vm.Alike U.vm) (h : zAOA t u) : zAOA t U := by
  obtain ⟨comp, c, k, h1, h2, h3, h4, h5⟩ := arrayOverA_spec h
  obtain ⟨k', hk', he⟩ := hvm.2.2 _ _ h3
  have e1 := va_idx_bare u.vm comp
  first | rw [hvm.bare_eq] at e1 | rw [← hvm.bare_eq] at e1
  have hi := (va_idx_bare U.vm comp).symm.trans (e1.trans h2)
  have hkind : k'.kind = .array comp (.array t) := by rw [he]; exact h4
  have f1 : U.vm.findClass (FieldType.array t).toString = some comp := by rw [hvm.findClass]; exact h1
  have f2 : U.vm.findClass ("[" ++ (FieldType.array t).toString) = some c := by rw [hvm.findClass]; exact h5
  unfold zAOA Cond.before Cond.holds
  simp only [Cond.value]
  rw [f1, Option.bind_some]
  refine (congrArg (fun o : Option Nat => (o.bind (fun c => (U.vm.classes[c]?).map fun (k : Class) => match k.kind with | .array _ ty => decide (ty = FieldType.array t) && decide (U.vm.findClass ("[" ++ (FieldType.array t).toString) = some c) | _ => false) == some true)) hi).trans ?_
  simp [hk', hkind, f2]
theorem zOv.moved {t : FieldType} {u U : State} (hvm : u.vm.Alike U.vm) (h : zOv t u) : zOv t U := by
  cases t <;> first | exact va_AO.moved hvm h | exact zAOA.moved hvm h | trivial
theorem zOv.same {t : FieldType} {u U : State} (hvm : u.vm = U.vm) (h : zOv t u) : zOv t U := zOv.moved (hvm ▸ Vm.Alike.refl u.vm) h
def zNs (U : State) : Prop := (∀ q ∈ zNF, va_Nw (.fieldLinkNest q.1 q.2.1 q.2.2.1 q.2.2.2.1 q.2.2.2.2.1 q.2.2.2.2.2) U) ∧ (∀ q ∈ zNM, va_Nw (.methodLinkNest q.1 q.2.1 q.2.2.1 q.2.2.2) U) ∧ (∀ t, t < znA → zOv (zAT t) U) ∧ zXS U
def zKK (D : va_G) (dt : Nat → ClassId) (U : State) : Prop := va_K D vwCl ((List.range znA).map (fun t => (dt t, zAT t))) U ∧ zNs U
theorem zNs.moved {s U : State} (hW : s.WarmedH U.vm) (h : zNs s) : zNs U := ⟨fun q hq => va_Nw.warmF hW (h.1 q hq), fun q hq => va_Nw.warmM hW (h.2.1 q hq), fun t ht => zOv.moved hW.alike (h.2.2.1 t ht), zXS.moved hW h.2.2.2⟩
theorem zKK.moved {D : va_G} {dt : Nat → ClassId} {s U : State} (hW : s.WarmedH U.vm) (h : zKK D dt s) : zKK D dt U := ⟨va_K.moved hW.alike h.1, h.2.moved hW⟩
theorem zKK.calling {D : va_G} {dt : Nat → ClassId} {U : State} {g : JFrame} {mk : MethodId} {a : Array Value} (h : zKK D dt U) : zKK D dt (U.calling g mk a) := ⟨va_K.moved (u := U) (U := U.calling g mk a) (Vm.Alike.refl U.vm) h.1, ⟨fun q hq => va_Nw.same (u := U) (U := U.calling g mk a) rfl rfl (h.2.1 q hq), fun q hq => va_Nw.same (u := U) (U := U.calling g mk a) rfl rfl (h.2.2.1 q hq), fun t ht => zOv.same (u := U) (U := U.calling g mk a) rfl (h.2.2.2.1 t ht), zXS.same (s := U) (U := U.calling g mk a) rfl h.2.2.2.2⟩⟩
theorem zRep.moved {D : va_G} {dt : Nat → ClassId} {b b0 : Nat} {σ : zS} {u U : State} {H : Heap} (hvm : u.vm.Alike U.vm) (h : zRep D dt b b0 σ u H) : zRep D dt b b0 σ U H := ⟨h.1, h.2.1, h.2.2.1, h.2.2.2.1, va_X.moved hvm h.2.2.2.2.1, zTh.moved hvm h.2.2.2.2.2⟩
theorem zKK.arr {D : va_G} {dt : Nat → ClassId} {U : State} (h : zKK D dt U) {t : Nat} (ht : t < znA) : ArrOfT U (dt t) (zAT t) ∧ va_RA U (dt t) (zAT t) := h.1.2 t (dt t, zAT t) (by rw [List.getElem?_map, List.getElem?_range ht]; rfl)
theorem zRep.lt {D : va_G} {dt : Nat → ClassId} {b b0 : Nat} {σ : zS} {U : State} {H : Heap} (h : zRep D dt b b0 σ U H) {k : Nat} (hk : k < zn σ) (h0 : 0 < k) : b0 + k < H.size := by rw [h.2.1]; omega
/-- a cell at another heap -/
theorem zAt.kept {D : va_G} {dt : Nat → ClassId} {g : Nat → Nat} {σ : zS} {a q : Nat} {H H1 : Heap} (h : zAt D dt g σ a H q) (hq : H1[q]? = H[q]?) : zAt D dt g σ a H1 q := by
  unfold zAt at h ⊢
  split
  · rename_i hc
    rw [if_pos hc] at h
    exact ⟨h.1, h.2.kept hq⟩
  · rename_i hc
    rw [if_neg hc] at h
    exact ⟨h.1, hq.trans h.2⟩
theorem zAt.same {D : va_G} {dt : Nat → ClassId} {g : Nat → Nat} {σ σ' : zS} {a q : Nat} {H : Heap} (h : zAt D dt g σ a H q) (e1 : zK σ' a = zK σ a) (e2 : zL σ' a = zL σ a) (e3 : ∀ c k, zF σ' c k a = zF σ c k a) (e4 : ∀ c k, zG σ' c k a = zG σ c k a) (e5 : zI σ' a = zI σ a) (e6 : zR σ' a = zR σ a) (e7 : zJ σ' a = zJ σ a) : zAt D dt g σ' a H q := by
  have f : ∀ c k, zfv σ' c k a = zfv σ c k a := fun c k => by unfold zfv; rw [e3, e4]
  have f2 : zpay g σ' a = zpay g σ a := by unfold zpay; rw [e1, e5, e6, e7]
  unfold zAt at h ⊢
  rw [e1, e2, f2]
  split
  · rename_i hc
    rw [if_pos hc] at h
    exact ⟨h.1, h.2.to (fun k _ => by simp only [f])⟩
  · rename_i hc
    rw [if_neg hc] at h
    exact h
/-! locals: the first entry of a place counts -/
def zlk (lc : List (Nat × Value)) (i : Nat) : Option Value := match lc with
  | [] => none
  | q :: r => if q.1 = i then some q.2 else zlk r i
def zHas (ls : Array Slot) (nL : Nat) (g : Nat → Nat) (lc : List (Nat × Value)) : Prop := ls.size = nL ∧ lv_wf ls ∧ ∀ i v, zlk lc i = some v → ls[i]? = some (.val (zv g v))
/-- no long and no double lies just below the place -/
def zlo (lc : List (Nat × Value)) (i : Nat) : Bool := match i with
  | 0 => true
  | j + 1 => match zlk lc j with
    | some v => v.category == 1
    | none => true
theorem zHas.sub {ls : Array Slot} {nL : Nat} {g : Nat → Nat} {lc lc' : List (Nat × Value)} (h : zHas ls nL g lc) (hs : ∀ i v, zlk lc' i = some v → zlk lc i = some v) : zHas ls nL g lc' := ⟨h.1, h.2.1, fun i v hv => h.2.2 i v (hs i v hv)⟩
theorem zsub_nil {lc : List (Nat × Value)} : ∀ i v, zlk [] i = some v → zlk lc i = some v := fun _ _ h => by cases h
theorem zsub_cons {lc r : List (Nat × Value)} {i : Nat} {v : Value} (h : zlk lc i = some v) (hr : ∀ i v, zlk r i = some v → zlk lc i = some v) : ∀ j w, zlk ((i, v) :: r) j = some w → zlk lc j = some w := fun j w hw => by
  unfold zlk at hw
  split at hw
  · rename_i e
    cases hw
    have e : i = j := e
    subst e
    exact h
  · exact hr j w hw
def zCtx (y : zM) (p : Program) (s : State) (m : MethodId) (args : Array Value) (meth : Method) (c : Code) : Prop := p.tables.exec = Jvm.exec ∧ c.code = y.2.1 ∧ meth.sig.returnType = y.2.2.2.1 ∧ c.maxLocals = y.2.2.1 ∧ s.vm.findClass y.1.cls = some m.cls ∧ (∀ w ∈ zT, w.before args s = true) ∧ meth.locks = false ∧ (y.1.name = "<init>" → meth.name = "<init>") ∧ (zHH y.1 ≠ [] → c.exceptionTable.toList = tableOf (zHH y.1))
/-- an instruction that leaves the method, and what it answers -/
def zRet4 (y : zM) (pc : Nat) (v : Option Value) (st : List Value) : Prop :=
  (v = none ∧ st = [] ∧ y.2.2.2.1 = none ∧ decode y.2.1 pc = .ok (.return_, 1)) ∨
  (∃ x ty, v = some (.int x) ∧ st = [.int x] ∧ y.2.2.2.1 = some ty ∧ narrow ty (.int x) = .int x ∧ decode y.2.1 pc = .ok (.ireturn, 1)) ∨
  (∃ w ty, v = some w ∧ st = [w] ∧ (w = .null ∨ ∃ a, w = .ref a) ∧ y.2.2.2.1 = some ty ∧ ((∃ n, ty = .object n) ∨ ∃ t, ty = .array t) ∧ decode y.2.1 pc = .ok (.areturn, 1)) ∨
  (∃ x, v = some (.long x) ∧ st = [.long x] ∧ y.2.2.2.1 = some .long ∧ decode y.2.1 pc = .ok (.lreturn, 1)) ∨
  (∃ x, v = some (.double x) ∧ st = [.double x] ∧ y.2.2.2.1 = some .double ∧ decode y.2.1 pc = .ok (.dreturn, 1))
/-- or a throw: its number stands as a float -/
def zRet (y : zM) (R : Room) (pc : Nat) (v : Option Value) (st : List Value) (uc us : Nat) (ls : Array Slot) : Prop :=
  zRet4 y pc v st ∨ (∃ k, v = some (.float k) ∧ st = [] ∧ ls.size = y.2.2.1 ∧ zThr y pc k ∧ (uc + 1 ≤ R.cells ∧ us + 6 ≤ R.slots) ∧ 6 ≤ R.frames ∧ 100 ≤ R.locals)
/-- from here the method comes to an answer and a heap with Q -/
def zAW (l : Launch) (y : zM) (R : Room) (pc : Nat) (lc : List (Nat × Value)) (st : List Value) (σ : zS) (uc us : Nat) (Q : Option Value → zS → Prop) : Prop :=
  ∀ (p : Program) (e : Env) (s : State) (m : MethodId) (args : Array Value) (below : List Frame) (meth : Method) (c : Code) (D : va_G) (dt : Nat → ClassId) (b b0 : Nat) (H : Heap) (locs : List Loc) (ls : Array Slot) (Qs : State → Prop),
    zCtx y p s m args meth c → zKK D dt s → zRep D dt b b0 σ s H → b0 + 1 ≤ s.heap.size → va_S (fun q => b0 < q) s.heap H locs → zHas ls y.2.2.1 (zg b b0) lc → (uc ≤ R.cells ∧ us ≤ R.slots) →
    (∀ (v : Option Value) (σ' : zS) (pc' : Nat) (st' : List Value) (H' : Heap) (locs' : List Loc) (uc' us' : Nat) (ls' : Array Slot), zRet y R pc' v st' uc' us' ls' → Q v σ' → zRep D dt b b0 σ' s H' → va_S (fun q => b0 < q) s.heap H' locs' → (uc' ≤ R.cells ∧ us' ≤ R.slots) → W p l e R s m args below meth c H' locs' uc' us' Qs (F0 m pc' ls' (st'.map (zv (zg b b0))))) →
    W p l e R s m args below meth c H locs uc us Qs (F0 m pc ls (st.map (zv (zg b b0))))
section ZR
variable {l : Launch} {y : zM} {R : Room} {pc : Nat} {lc : List (Nat × Value)} {st : List Value} {σ : zS} {uc us : Nat} {Q : Option Value → zS → Prop}
theorem zw_weak {Q' : Option Value → zS → Prop} (h : ∀ v σ', Q' v σ' → Q v σ') (kk : zAW l y R pc lc st σ uc us Q') : zAW l y R pc lc st σ uc us Q := by
  intro p e s m args below meth c D dt b b0 H locs ls Qs hC hKK hR hb hS hl hu hF
  exact kk p e s m args below meth c D dt b b0 H locs ls Qs hC hKK hR hb hS hl hu (fun v σ' pc' st' H' locs' uc' us' ls' h1 h2 => hF v σ' pc' st' H' locs' uc' us' ls' h1 (h v σ' h2))
theorem zw_wf (kk : zWF σ → zAW l y R pc lc st σ uc us Q) : zAW l y R pc lc st σ uc us Q := by
  intro p e s m args below meth c D dt b b0 H locs ls Qs hC hKK hR hb hS hl hu hF
  exact kk hR.1 p e s m args below meth c D dt b b0 H locs ls Qs hC hKK hR hb hS hl hu hF
theorem zw_loc {lc' : List (Nat × Value)} (hs : ∀ i v, zlk lc' i = some v → zlk lc i = some v) (kk : zAW l y R pc lc' st σ uc us Q) : zAW l y R pc lc st σ uc us Q := by
  intro p e s m args below meth c D dt b b0 H locs ls Qs hC hKK hR hb hS hl hu hF
  exact kk p e s m args below meth c D dt b b0 H locs ls Qs hC hKK hR hb hS (hl.sub hs) hu hF
theorem zw_room {uc' us' : Nat} (h1 : uc ≤ uc') (h2 : us ≤ us') (h : uc' ≤ R.cells ∧ us' ≤ R.slots) (kk : zAW l y R pc lc st σ uc' us' Q) : zAW l y R pc lc st σ uc us Q := by
  intro p e s m args below meth c D dt b b0 H locs ls Qs hC hKK hR hb hS hl hu hF
  exact W.widen h1 h2 (kk p e s m args below meth c D dt b b0 H locs ls Qs hC hKK hR hb hS hl h hF)
/-- the room's bounds are at hand -/
theorem zw_fit (kk : uc ≤ R.cells ∧ us ≤ R.slots → zAW l y R pc lc st σ uc us Q) : zAW l y R pc lc st σ uc us Q := by
  intro p e s m args below meth c D dt b b0 H locs ls Qs hC hKK hR hb hS hl hu hF
  exact kk hu p e s m args below meth c D dt b b0 H locs ls Qs hC hKK hR hb hS hl hu hF
theorem zw_ret {v : Option Value} (h : zRet4 y pc v st) (hq : Q v σ) : zAW l y R pc lc st σ uc us Q := by
  intro p e s m args below meth c D dt b b0 H locs ls Qs hC hKK hR hb hS hl hu hF
  exact hF v σ pc st H locs uc us ls (Or.inl h) hq hR hS hu
theorem zw_throw {k : UInt32} (h : zThr y pc k) (hr : (uc + 1 ≤ R.cells ∧ us + 6 ≤ R.slots) ∧ 6 ≤ R.frames ∧ 100 ≤ R.locals) (hq : Q (some (.float k)) σ) : zAW l y R pc lc [] σ uc us Q := by
  intro p e s m args below meth c D dt b b0 H locs ls Qs hC hKK hR hb hS hl hu hF
  exact hF _ σ pc [] H locs uc us ls (Or.inr ⟨k, rfl, rfl, hl.1, h, hr⟩) hq hR hS hu
theorem zw_vret (hd : decode y.2.1 pc = .ok (.return_, 1)) (hr : y.2.2.2.1 = none) (hq : Q none σ) : zAW l y R pc lc [] σ uc us Q := zw_ret (Or.inl ⟨rfl, rfl, hr, hd⟩) hq
theorem zw_iret {x : Int32} {ty : FieldType} (hd : decode y.2.1 pc = .ok (.ireturn, 1)) (hr : y.2.2.2.1 = some ty) (hn : narrow ty (.int x) = .int x) (hq : Q (some (.int x)) σ) : zAW l y R pc lc [.int x] σ uc us Q := zw_ret (Or.inr (Or.inl ⟨x, ty, rfl, rfl, hr, hn, hd⟩)) hq
theorem zw_aret {a : Nat} {ty : FieldType} (hd : decode y.2.1 pc = .ok (.areturn, 1)) (hr : y.2.2.2.1 = some ty) (hn : (∃ n, ty = .object n) ∨ ∃ t, ty = .array t) (hq : Q (some (.ref a)) σ) : zAW l y R pc lc [.ref a] σ uc us Q := zw_ret (Or.inr (Or.inr (Or.inl ⟨.ref a, ty, rfl, rfl, Or.inr ⟨a, rfl⟩, hr, hn, hd⟩))) hq
theorem zw_aretN {ty : FieldType} (hd : decode y.2.1 pc = .ok (.areturn, 1)) (hr : y.2.2.2.1 = some ty) (hn : (∃ n, ty = .object n) ∨ ∃ t, ty = .array t) (hq : Q (some .null) σ) : zAW l y R pc lc [.null] σ uc us Q := zw_ret (Or.inr (Or.inr (Or.inl ⟨.null, ty, rfl, rfl, Or.inl rfl, hr, hn, hd⟩))) hq
theorem zw_lret {x : Int64} (hd : decode y.2.1 pc = .ok (.lreturn, 1)) (hr : y.2.2.2.1 = some .long) (hq : Q (some (.long x)) σ) : zAW l y R pc lc [.long x] σ uc us Q := zw_ret (Or.inr (Or.inr (Or.inr (Or.inl ⟨x, rfl, rfl, hr, hd⟩)))) hq
theorem zw_dret {x : UInt64} (hd : decode y.2.1 pc = .ok (.dreturn, 1)) (hr : y.2.2.2.1 = some .double) (hq : Q (some (.double x)) σ) : zAW l y R pc lc [.double x] σ uc us Q := zw_ret (Or.inr (Or.inr (Or.inr (Or.inr ⟨x, rfl, rfl, hr, hd⟩)))) hq
theorem zw_iconst {n : Int} {x : Int32} (hd : decode y.2.1 pc = .ok (.iconst n, 1)) (hx : Int32.ofInt n = x) (kk : zAW l y R (pc + 1) lc (.int x :: st) σ uc us Q) : zAW l y R pc lc (st) σ uc us Q := by
  intro p e s m args below meth c D dt b b0 H locs ls Qs hC hKK hR hb hS hl hu hF
  exact lv_iconst hC.1 hC.2.1 hd hx (kk p e s m args below meth c D dt b b0 H locs ls Qs hC hKK hR hb hS hl hu hF)
theorem zw_bipush {n : Int} {x : Int32} (hd : decode y.2.1 pc = .ok (.bipush n, 2)) (hx : (Int8.ofInt n).toInt32 = x) (kk : zAW l y R (pc + 2) lc (.int x :: st) σ uc us Q) : zAW l y R pc lc (st) σ uc us Q := by
  intro p e s m args below meth c D dt b b0 H locs ls Qs hC hKK hR hb hS hl hu hF
  exact lv_bipush hC.1 hC.2.1 hd hx (kk p e s m args below meth c D dt b b0 H locs ls Qs hC hKK hR hb hS hl hu hF)
theorem zw_sipush {n : Int} {x : Int32} (hd : decode y.2.1 pc = .ok (.sipush n, 3)) (hx : (Int16.ofInt n).toInt32 = x) (kk : zAW l y R (pc + 3) lc (.int x :: st) σ uc us Q) : zAW l y R pc lc (st) σ uc us Q := by
  intro p e s m args below meth c D dt b b0 H locs ls Qs hC hKK hR hb hS hl hu hF
  exact lv_sipush hC.1 hC.2.1 hd hx (kk p e s m args below meth c D dt b b0 H locs ls Qs hC hKK hR hb hS hl hu hF)
theorem zw_ldc {ix : Nat} {x : Int32} (hd : decode y.2.1 pc = .ok (.ldc ix, 2)) (hx : Cond.constant y.1.cls ix x ∈ zT) (kk : zAW l y R (pc + 2) lc (.int x :: st) σ uc us Q) : zAW l y R pc lc (st) σ uc us Q := by
  intro p e s m args below meth c D dt b b0 H locs ls Qs hC hKK hR hb hS hl hu hF
  exact lv_ldc hC.1 hC.2.1 hC.2.2.2.2.1 (hC.2.2.2.2.2.1 _ hx) hd (kk p e s m args below meth c D dt b b0 H locs ls Qs hC hKK hR hb hS hl hu hF)
theorem zw_lconst {n : Fin 2} {x : Int64} (hd : decode y.2.1 pc = .ok (.lconst n, 1)) (hx : Int64.ofNat (n : Nat) = x) (kk : zAW l y R (pc + 1) lc (.long x :: st) σ uc us Q) : zAW l y R pc lc (st) σ uc us Q := by
  intro p e s m args below meth c D dt b b0 H locs ls Qs hC hKK hR hb hS hl hu hF
  exact lv_lconst hC.1 hC.2.1 hd hx (kk p e s m args below meth c D dt b b0 H locs ls Qs hC hKK hR hb hS hl hu hF)
theorem zw_null  (hd : decode y.2.1 pc = .ok (.aconst_null, 1)) (kk : zAW l y R (pc + 1) lc (.null :: st) σ uc us Q) : zAW l y R pc lc (st) σ uc us Q := by
  intro p e s m args below meth c D dt b b0 H locs ls Qs hC hKK hR hb hS hl hu hF
  exact lv_null hC.1 hC.2.1 hd (kk p e s m args below meth c D dt b b0 H locs ls Qs hC hKK hR hb hS hl hu hF)
theorem zw_iload_n {k : Fin 4} {x : Int32} (hd : decode y.2.1 pc = .ok (.iload_n k, 1)) (hl0 : zlk lc (k : Nat) = some (.int x)) (kk : zAW l y R (pc + 1) lc (.int x :: st) σ uc us Q) : zAW l y R pc lc (st) σ uc us Q := by
  intro p e s m args below meth c D dt b b0 H locs ls Qs hC hKK hR hb hS hl hu hF
  exact lv_iload_n hC.1 hC.2.1 hd rfl (hl.2.2 _ _ hl0) (kk p e s m args below meth c D dt b b0 H locs ls Qs hC hKK hR hb hS hl hu hF)
theorem zw_iload {i : Nat} {x : Int32} (hd : decode y.2.1 pc = .ok (.iload i, 2)) (hl0 : zlk lc i = some (.int x)) (kk : zAW l y R (pc + 2) lc (.int x :: st) σ uc us Q) : zAW l y R pc lc (st) σ uc us Q := by
  intro p e s m args below meth c D dt b b0 H locs ls Qs hC hKK hR hb hS hl hu hF
  exact lv_iload hC.1 hC.2.1 hd (hl.2.2 _ _ hl0) (kk p e s m args below meth c D dt b b0 H locs ls Qs hC hKK hR hb hS hl hu hF)
theorem zw_lload_n {k : Fin 4} {x : Int64} (hd : decode y.2.1 pc = .ok (.lload_n k, 1)) (hl0 : zlk lc (k : Nat) = some (.long x)) (kk : zAW l y R (pc + 1) lc (.long x :: st) σ uc us Q) : zAW l y R pc lc (st) σ uc us Q := by
  intro p e s m args below meth c D dt b b0 H locs ls Qs hC hKK hR hb hS hl hu hF
  exact lv_lload_n hC.1 hC.2.1 hd rfl (hl.2.2 _ _ hl0) (kk p e s m args below meth c D dt b b0 H locs ls Qs hC hKK hR hb hS hl hu hF)
theorem zw_lload {i : Nat} {x : Int64} (hd : decode y.2.1 pc = .ok (.lload i, 2)) (hl0 : zlk lc i = some (.long x)) (kk : zAW l y R (pc + 2) lc (.long x :: st) σ uc us Q) : zAW l y R pc lc (st) σ uc us Q := by
  intro p e s m args below meth c D dt b b0 H locs ls Qs hC hKK hR hb hS hl hu hF
  exact lv_lload hC.1 hC.2.1 hd (hl.2.2 _ _ hl0) (kk p e s m args below meth c D dt b b0 H locs ls Qs hC hKK hR hb hS hl hu hF)
theorem zw_aload_n {k : Fin 4} {a : Nat} (hd : decode y.2.1 pc = .ok (.aload_n k, 1)) (hl0 : zlk lc (k : Nat) = some (.ref a)) (kk : zAW l y R (pc + 1) lc (.ref a :: st) σ uc us Q) : zAW l y R pc lc (st) σ uc us Q := by
  intro p e s m args below meth c D dt b b0 H locs ls Qs hC hKK hR hb hS hl hu hF
  exact lv_aload_n hC.1 hC.2.1 hd rfl (hl.2.2 _ _ hl0) (kk p e s m args below meth c D dt b b0 H locs ls Qs hC hKK hR hb hS hl hu hF)
theorem zw_aload {i : Nat} {a : Nat} (hd : decode y.2.1 pc = .ok (.aload i, 2)) (hl0 : zlk lc i = some (.ref a)) (kk : zAW l y R (pc + 2) lc (.ref a :: st) σ uc us Q) : zAW l y R pc lc (st) σ uc us Q := by
  intro p e s m args below meth c D dt b b0 H locs ls Qs hC hKK hR hb hS hl hu hF
  exact lv_aload hC.1 hC.2.1 hd (hl.2.2 _ _ hl0) (kk p e s m args below meth c D dt b b0 H locs ls Qs hC hKK hR hb hS hl hu hF)
theorem zw_aload_nN {k : Fin 4} (hd : decode y.2.1 pc = .ok (.aload_n k, 1)) (hl0 : zlk lc (k : Nat) = some .null) (kk : zAW l y R (pc + 1) lc (.null :: st) σ uc us Q) : zAW l y R pc lc (st) σ uc us Q := by
  intro p e s m args below meth c D dt b b0 H locs ls Qs hC hKK hR hb hS hl hu hF
  exact lv_aload_nN hC.1 hC.2.1 hd rfl (hl.2.2 _ _ hl0) (kk p e s m args below meth c D dt b b0 H locs ls Qs hC hKK hR hb hS hl hu hF)
theorem zw_aloadN {i : Nat} (hd : decode y.2.1 pc = .ok (.aload i, 2)) (hl0 : zlk lc i = some .null) (kk : zAW l y R (pc + 2) lc (.null :: st) σ uc us Q) : zAW l y R pc lc (st) σ uc us Q := by
  intro p e s m args below meth c D dt b b0 H locs ls Qs hC hKK hR hb hS hl hu hF
  exact lv_aloadN hC.1 hC.2.1 hd (hl.2.2 _ _ hl0) (kk p e s m args below meth c D dt b b0 H locs ls Qs hC hKK hR hb hS hl hu hF)
theorem zw_iadd {x z : Int32} (hd : decode y.2.1 pc = .ok (.iadd, 1)) (kk : zAW l y R (pc + 1) lc (.int (x + z) :: st) σ uc us Q) : zAW l y R pc lc (.int z :: .int x :: st) σ uc us Q := by
  intro p e s m args below meth c D dt b b0 H locs ls Qs hC hKK hR hb hS hl hu hF
  exact lv_iadd hC.1 hC.2.1 hd (kk p e s m args below meth c D dt b b0 H locs ls Qs hC hKK hR hb hS hl hu hF)
theorem zw_isub {x z : Int32} (hd : decode y.2.1 pc = .ok (.isub, 1)) (kk : zAW l y R (pc + 1) lc (.int (x - z) :: st) σ uc us Q) : zAW l y R pc lc (.int z :: .int x :: st) σ uc us Q := by
  intro p e s m args below meth c D dt b b0 H locs ls Qs hC hKK hR hb hS hl hu hF
  exact lv_isub hC.1 hC.2.1 hd (kk p e s m args below meth c D dt b b0 H locs ls Qs hC hKK hR hb hS hl hu hF)
theorem zw_imul {x z : Int32} (hd : decode y.2.1 pc = .ok (.imul, 1)) (kk : zAW l y R (pc + 1) lc (.int (x * z) :: st) σ uc us Q) : zAW l y R pc lc (.int z :: .int x :: st) σ uc us Q := by
  intro p e s m args below meth c D dt b b0 H locs ls Qs hC hKK hR hb hS hl hu hF
  exact lv_imul hC.1 hC.2.1 hd (kk p e s m args below meth c D dt b b0 H locs ls Qs hC hKK hR hb hS hl hu hF)
theorem zw_iand {x z : Int32} (hd : decode y.2.1 pc = .ok (.iand, 1)) (kk : zAW l y R (pc + 1) lc (.int (x &&& z) :: st) σ uc us Q) : zAW l y R pc lc (.int z :: .int x :: st) σ uc us Q := by
  intro p e s m args below meth c D dt b b0 H locs ls Qs hC hKK hR hb hS hl hu hF
  exact lv_iand hC.1 hC.2.1 hd (kk p e s m args below meth c D dt b b0 H locs ls Qs hC hKK hR hb hS hl hu hF)
theorem zw_ior {x z : Int32} (hd : decode y.2.1 pc = .ok (.ior, 1)) (kk : zAW l y R (pc + 1) lc (.int (x ||| z) :: st) σ uc us Q) : zAW l y R pc lc (.int z :: .int x :: st) σ uc us Q := by
  intro p e s m args below meth c D dt b b0 H locs ls Qs hC hKK hR hb hS hl hu hF
  exact lv_ior hC.1 hC.2.1 hd (kk p e s m args below meth c D dt b b0 H locs ls Qs hC hKK hR hb hS hl hu hF)
theorem zw_ixor {x z : Int32} (hd : decode y.2.1 pc = .ok (.ixor, 1)) (kk : zAW l y R (pc + 1) lc (.int (x ^^^ z) :: st) σ uc us Q) : zAW l y R pc lc (.int z :: .int x :: st) σ uc us Q := by
  intro p e s m args below meth c D dt b b0 H locs ls Qs hC hKK hR hb hS hl hu hF
  exact lv_ixor hC.1 hC.2.1 hd (kk p e s m args below meth c D dt b b0 H locs ls Qs hC hKK hR hb hS hl hu hF)
theorem zw_ishl {x z : Int32} (hd : decode y.2.1 pc = .ok (.ishl, 1)) (kk : zAW l y R (pc + 1) lc (.int (x <<< (z &&& 31)) :: st) σ uc us Q) : zAW l y R pc lc (.int z :: .int x :: st) σ uc us Q := by
  intro p e s m args below meth c D dt b b0 H locs ls Qs hC hKK hR hb hS hl hu hF
  exact lv_ishl hC.1 hC.2.1 hd (kk p e s m args below meth c D dt b b0 H locs ls Qs hC hKK hR hb hS hl hu hF)
theorem zw_ishr {x z : Int32} (hd : decode y.2.1 pc = .ok (.ishr, 1)) (kk : zAW l y R (pc + 1) lc (.int (x >>> (z &&& 31)) :: st) σ uc us Q) : zAW l y R pc lc (.int z :: .int x :: st) σ uc us Q := by
  intro p e s m args below meth c D dt b b0 H locs ls Qs hC hKK hR hb hS hl hu hF
  exact lv_ishr hC.1 hC.2.1 hd (kk p e s m args below meth c D dt b b0 H locs ls Qs hC hKK hR hb hS hl hu hF)
theorem zw_iushr {x z : Int32} (hd : decode y.2.1 pc = .ok (.iushr, 1)) (kk : zAW l y R (pc + 1) lc (.int (x.toUInt32 >>> (z.toUInt32 &&& Int32.toUInt32 31)).toInt32 :: st) σ uc us Q) : zAW l y R pc lc (.int z :: .int x :: st) σ uc us Q := by
  intro p e s m args below meth c D dt b b0 H locs ls Qs hC hKK hR hb hS hl hu hF
  exact lv_iushr hC.1 hC.2.1 hd rfl (kk p e s m args below meth c D dt b b0 H locs ls Qs hC hKK hR hb hS hl hu hF)
theorem zw_idiv {x z : Int32} (hd : decode y.2.1 pc = .ok (.idiv, 1)) (hz : ¬ z = 0) (kk : zAW l y R (pc + 1) lc (.int (x / z) :: st) σ uc us Q) : zAW l y R pc lc (.int z :: .int x :: st) σ uc us Q := by
  intro p e s m args below meth c D dt b b0 H locs ls Qs hC hKK hR hb hS hl hu hF
  exact lv_idiv hC.1 hC.2.1 hd hz (kk p e s m args below meth c D dt b b0 H locs ls Qs hC hKK hR hb hS hl hu hF)
theorem zw_irem {x z : Int32} (hd : decode y.2.1 pc = .ok (.irem, 1)) (hz : ¬ z = 0) (kk : zAW l y R (pc + 1) lc (.int (x - x / z * z) :: st) σ uc us Q) : zAW l y R pc lc (.int z :: .int x :: st) σ uc us Q := by
  intro p e s m args below meth c D dt b b0 H locs ls Qs hC hKK hR hb hS hl hu hF
  exact lv_irem hC.1 hC.2.1 hd hz (kk p e s m args below meth c D dt b b0 H locs ls Qs hC hKK hR hb hS hl hu hF)
theorem zw_ineg {x : Int32} (hd : decode y.2.1 pc = .ok (.ineg, 1)) (kk : zAW l y R (pc + 1) lc (.int (-x) :: st) σ uc us Q) : zAW l y R pc lc (.int x :: st) σ uc us Q := by
  intro p e s m args below meth c D dt b b0 H locs ls Qs hC hKK hR hb hS hl hu hF
  exact lv_ineg hC.1 hC.2.1 hd (kk p e s m args below meth c D dt b b0 H locs ls Qs hC hKK hR hb hS hl hu hF)
theorem zw_i2l {x : Int32} (hd : decode y.2.1 pc = .ok (.i2l, 1)) (kk : zAW l y R (pc + 1) lc (.long x.toInt64 :: st) σ uc us Q) : zAW l y R pc lc (.int x :: st) σ uc us Q := by
  intro p e s m args below meth c D dt b b0 H locs ls Qs hC hKK hR hb hS hl hu hF
  exact lv_i2l hC.1 hC.2.1 hd rfl (kk p e s m args below meth c D dt b b0 H locs ls Qs hC hKK hR hb hS hl hu hF)
theorem zw_ladd {x z : Int64} (hd : decode y.2.1 pc = .ok (.ladd, 1)) (kk : zAW l y R (pc + 1) lc (.long (x + z) :: st) σ uc us Q) : zAW l y R pc lc (.long z :: .long x :: st) σ uc us Q := by
  intro p e s m args below meth c D dt b b0 H locs ls Qs hC hKK hR hb hS hl hu hF
  exact lv_ladd hC.1 hC.2.1 hd (kk p e s m args below meth c D dt b b0 H locs ls Qs hC hKK hR hb hS hl hu hF)
theorem zw_lsub {x z : Int64} (hd : decode y.2.1 pc = .ok (.lsub, 1)) (kk : zAW l y R (pc + 1) lc (.long (x - z) :: st) σ uc us Q) : zAW l y R pc lc (.long z :: .long x :: st) σ uc us Q := by
  intro p e s m args below meth c D dt b b0 H locs ls Qs hC hKK hR hb hS hl hu hF
  exact lv_lsub hC.1 hC.2.1 hd (kk p e s m args below meth c D dt b b0 H locs ls Qs hC hKK hR hb hS hl hu hF)
theorem zw_lmul {x z : Int64} (hd : decode y.2.1 pc = .ok (.lmul, 1)) (kk : zAW l y R (pc + 1) lc (.long (x * z) :: st) σ uc us Q) : zAW l y R pc lc (.long z :: .long x :: st) σ uc us Q := by
  intro p e s m args below meth c D dt b b0 H locs ls Qs hC hKK hR hb hS hl hu hF
  exact lv_lmul hC.1 hC.2.1 hd (kk p e s m args below meth c D dt b b0 H locs ls Qs hC hKK hR hb hS hl hu hF)
theorem zw_land {x z : Int64} (hd : decode y.2.1 pc = .ok (.land, 1)) (kk : zAW l y R (pc + 1) lc (.long (x &&& z) :: st) σ uc us Q) : zAW l y R pc lc (.long z :: .long x :: st) σ uc us Q := by
  intro p e s m args below meth c D dt b b0 H locs ls Qs hC hKK hR hb hS hl hu hF
  exact lv_land hC.1 hC.2.1 hd (kk p e s m args below meth c D dt b b0 H locs ls Qs hC hKK hR hb hS hl hu hF)
theorem zw_lor {x z : Int64} (hd : decode y.2.1 pc = .ok (.lor, 1)) (kk : zAW l y R (pc + 1) lc (.long (x ||| z) :: st) σ uc us Q) : zAW l y R pc lc (.long z :: .long x :: st) σ uc us Q := by
  intro p e s m args below meth c D dt b b0 H locs ls Qs hC hKK hR hb hS hl hu hF
  exact lv_lor hC.1 hC.2.1 hd (kk p e s m args below meth c D dt b b0 H locs ls Qs hC hKK hR hb hS hl hu hF)
theorem zw_lcmp {x z : Int64} (hd : decode y.2.1 pc = .ok (.lcmp, 1)) (kk : zAW l y R (pc + 1) lc (.int (lg_cmp x z) :: st) σ uc us Q) : zAW l y R pc lc (.long z :: .long x :: st) σ uc us Q := by
  intro p e s m args below meth c D dt b b0 H locs ls Qs hC hKK hR hb hS hl hu hF
  exact W.lcmp hC.1 hC.2.1 hd (kk p e s m args below meth c D dt b b0 H locs ls Qs hC hKK hR hb hS hl hu hF)
theorem zw_dup {v : Value} (hd : decode y.2.1 pc = .ok (.dup, 1)) (hv : v.category = 1) (kk : zAW l y R (pc + 1) lc (v :: v :: st) σ uc us Q) : zAW l y R pc lc (v :: st) σ uc us Q := by
  intro p e s m args below meth c D dt b b0 H locs ls Qs hC hKK hR hb hS hl hu hF
  exact lv_dup hC.1 hC.2.1 hd (by rw [zv_cat]; exact hv) (kk p e s m args below meth c D dt b b0 H locs ls Qs hC hKK hR hb hS hl hu hF)
theorem zw_pop {v : Value} (hd : decode y.2.1 pc = .ok (.pop, 1)) (hv : v.category = 1) (kk : zAW l y R (pc + 1) lc (st) σ uc us Q) : zAW l y R pc lc (v :: st) σ uc us Q := by
  intro p e s m args below meth c D dt b b0 H locs ls Qs hC hKK hR hb hS hl hu hF
  exact lv_pop hC.1 hC.2.1 hd (by rw [zv_cat]; exact hv) (kk p e s m args below meth c D dt b b0 H locs ls Qs hC hKK hR hb hS hl hu hF)
theorem zw_dup2 {v w : Value} (hd : decode y.2.1 pc = .ok (.dup2, 1)) (hv : v.category = 1) (hw : w.category = 1) (kk : zAW l y R (pc + 1) lc (v :: w :: v :: w :: st) σ uc us Q) : zAW l y R pc lc (v :: w :: st) σ uc us Q := by
  intro p e s m args below meth c D dt b b0 H locs ls Qs hC hKK hR hb hS hl hu hF
  exact lv_dup2_11 hC.1 hC.2.1 hd (by rw [zv_cat]; exact hv) (by rw [zv_cat]; exact hw) (kk p e s m args below meth c D dt b b0 H locs ls Qs hC hKK hR hb hS hl hu hF)
theorem zw_goto {off : Int} {tgt : Nat} (hd : decode y.2.1 pc = .ok (.goto off, 3)) (ht : (pc : Int) + off = (tgt : Int)) (kk : zAW l y R tgt lc st σ uc us Q) : zAW l y R pc lc st σ uc us Q := by
  intro p e s m args below meth c D dt b b0 H locs ls Qs hC hKK hR hb hS hl hu hF
  exact lv_goto hC.1 hC.2.1 hd ht (kk p e s m args below meth c D dt b b0 H locs ls Qs hC hKK hR hb hS hl hu hF)
theorem zw_ifeq {x : Int32} {off : Int} {tgt : Nat} (hd : decode y.2.1 pc = .ok (.ifCond .eq off, 3)) (ht : (pc : Int) + off = (tgt : Int)) (kt : x = 0 → zAW l y R tgt lc st σ uc us Q) (kf : ¬ (x = 0) → zAW l y R (pc + 3) lc st σ uc us Q) : zAW l y R pc lc (.int x :: st) σ uc us Q := by
  intro p e s m args below meth c D dt b b0 H locs ls Qs hC hKK hR hb hS hl hu hF
  exact lv_if_eq hC.1 hC.2.1 hd ht (fun h => kt h p e s m args below meth c D dt b b0 H locs ls Qs hC hKK hR hb hS hl hu hF) (fun h => kf h p e s m args below meth c D dt b b0 H locs ls Qs hC hKK hR hb hS hl hu hF)
theorem zw_icmpeq {x z : Int32} {off : Int} {tgt : Nat} (hd : decode y.2.1 pc = .ok (.if_icmp .eq off, 3)) (ht : (pc : Int) + off = (tgt : Int)) (kt : x = z → zAW l y R tgt lc st σ uc us Q) (kf : ¬ (x = z) → zAW l y R (pc + 3) lc st σ uc us Q) : zAW l y R pc lc (.int z :: .int x :: st) σ uc us Q := by
  intro p e s m args below meth c D dt b b0 H locs ls Qs hC hKK hR hb hS hl hu hF
  exact lv_icmp_eq hC.1 hC.2.1 hd ht (fun h => kt h p e s m args below meth c D dt b b0 H locs ls Qs hC hKK hR hb hS hl hu hF) (fun h => kf h p e s m args below meth c D dt b b0 H locs ls Qs hC hKK hR hb hS hl hu hF)
theorem zw_ifne {x : Int32} {off : Int} {tgt : Nat} (hd : decode y.2.1 pc = .ok (.ifCond .ne off, 3)) (ht : (pc : Int) + off = (tgt : Int)) (kt : ¬ x = 0 → zAW l y R tgt lc st σ uc us Q) (kf : x = 0 → zAW l y R (pc + 3) lc st σ uc us Q) : zAW l y R pc lc (.int x :: st) σ uc us Q := by
  intro p e s m args below meth c D dt b b0 H locs ls Qs hC hKK hR hb hS hl hu hF
  exact lv_if_ne hC.1 hC.2.1 hd ht (fun h => kt h p e s m args below meth c D dt b b0 H locs ls Qs hC hKK hR hb hS hl hu hF) (fun h => kf h p e s m args below meth c D dt b b0 H locs ls Qs hC hKK hR hb hS hl hu hF)
theorem zw_icmpne {x z : Int32} {off : Int} {tgt : Nat} (hd : decode y.2.1 pc = .ok (.if_icmp .ne off, 3)) (ht : (pc : Int) + off = (tgt : Int)) (kt : ¬ x = z → zAW l y R tgt lc st σ uc us Q) (kf : x = z → zAW l y R (pc + 3) lc st σ uc us Q) : zAW l y R pc lc (.int z :: .int x :: st) σ uc us Q := by
  intro p e s m args below meth c D dt b b0 H locs ls Qs hC hKK hR hb hS hl hu hF
  exact lv_icmp_ne hC.1 hC.2.1 hd ht (fun h => kt h p e s m args below meth c D dt b b0 H locs ls Qs hC hKK hR hb hS hl hu hF) (fun h => kf h p e s m args below meth c D dt b b0 H locs ls Qs hC hKK hR hb hS hl hu hF)
theorem zw_iflt {x : Int32} {off : Int} {tgt : Nat} (hd : decode y.2.1 pc = .ok (.ifCond .lt off, 3)) (ht : (pc : Int) + off = (tgt : Int)) (kt : x < 0 → zAW l y R tgt lc st σ uc us Q) (kf : ¬ (x < 0) → zAW l y R (pc + 3) lc st σ uc us Q) : zAW l y R pc lc (.int x :: st) σ uc us Q := by
  intro p e s m args below meth c D dt b b0 H locs ls Qs hC hKK hR hb hS hl hu hF
  exact lv_if_lt hC.1 hC.2.1 hd ht (fun h => kt h p e s m args below meth c D dt b b0 H locs ls Qs hC hKK hR hb hS hl hu hF) (fun h => kf h p e s m args below meth c D dt b b0 H locs ls Qs hC hKK hR hb hS hl hu hF)
theorem zw_icmplt {x z : Int32} {off : Int} {tgt : Nat} (hd : decode y.2.1 pc = .ok (.if_icmp .lt off, 3)) (ht : (pc : Int) + off = (tgt : Int)) (kt : x < z → zAW l y R tgt lc st σ uc us Q) (kf : ¬ (x < z) → zAW l y R (pc + 3) lc st σ uc us Q) : zAW l y R pc lc (.int z :: .int x :: st) σ uc us Q := by
  intro p e s m args below meth c D dt b b0 H locs ls Qs hC hKK hR hb hS hl hu hF
  exact lv_icmp_lt hC.1 hC.2.1 hd ht (fun h => kt h p e s m args below meth c D dt b b0 H locs ls Qs hC hKK hR hb hS hl hu hF) (fun h => kf h p e s m args below meth c D dt b b0 H locs ls Qs hC hKK hR hb hS hl hu hF)
theorem zw_ifge {x : Int32} {off : Int} {tgt : Nat} (hd : decode y.2.1 pc = .ok (.ifCond .ge off, 3)) (ht : (pc : Int) + off = (tgt : Int)) (kt : 0 ≤ x → zAW l y R tgt lc st σ uc us Q) (kf : ¬ (0 ≤ x) → zAW l y R (pc + 3) lc st σ uc us Q) : zAW l y R pc lc (.int x :: st) σ uc us Q := by
  intro p e s m args below meth c D dt b b0 H locs ls Qs hC hKK hR hb hS hl hu hF
  exact lv_if_ge hC.1 hC.2.1 hd ht (fun h => kt h p e s m args below meth c D dt b b0 H locs ls Qs hC hKK hR hb hS hl hu hF) (fun h => kf h p e s m args below meth c D dt b b0 H locs ls Qs hC hKK hR hb hS hl hu hF)
theorem zw_icmpge {x z : Int32} {off : Int} {tgt : Nat} (hd : decode y.2.1 pc = .ok (.if_icmp .ge off, 3)) (ht : (pc : Int) + off = (tgt : Int)) (kt : z ≤ x → zAW l y R tgt lc st σ uc us Q) (kf : ¬ (z ≤ x) → zAW l y R (pc + 3) lc st σ uc us Q) : zAW l y R pc lc (.int z :: .int x :: st) σ uc us Q := by
  intro p e s m args below meth c D dt b b0 H locs ls Qs hC hKK hR hb hS hl hu hF
  exact lv_icmp_ge hC.1 hC.2.1 hd ht (fun h => kt h p e s m args below meth c D dt b b0 H locs ls Qs hC hKK hR hb hS hl hu hF) (fun h => kf h p e s m args below meth c D dt b b0 H locs ls Qs hC hKK hR hb hS hl hu hF)
theorem zw_ifgt {x : Int32} {off : Int} {tgt : Nat} (hd : decode y.2.1 pc = .ok (.ifCond .gt off, 3)) (ht : (pc : Int) + off = (tgt : Int)) (kt : 0 < x → zAW l y R tgt lc st σ uc us Q) (kf : ¬ (0 < x) → zAW l y R (pc + 3) lc st σ uc us Q) : zAW l y R pc lc (.int x :: st) σ uc us Q := by
  intro p e s m args below meth c D dt b b0 H locs ls Qs hC hKK hR hb hS hl hu hF
  exact lv_if_gt hC.1 hC.2.1 hd ht (fun h => kt h p e s m args below meth c D dt b b0 H locs ls Qs hC hKK hR hb hS hl hu hF) (fun h => kf h p e s m args below meth c D dt b b0 H locs ls Qs hC hKK hR hb hS hl hu hF)
theorem zw_icmpgt {x z : Int32} {off : Int} {tgt : Nat} (hd : decode y.2.1 pc = .ok (.if_icmp .gt off, 3)) (ht : (pc : Int) + off = (tgt : Int)) (kt : z < x → zAW l y R tgt lc st σ uc us Q) (kf : ¬ (z < x) → zAW l y R (pc + 3) lc st σ uc us Q) : zAW l y R pc lc (.int z :: .int x :: st) σ uc us Q := by
  intro p e s m args below meth c D dt b b0 H locs ls Qs hC hKK hR hb hS hl hu hF
  exact lv_icmp_gt hC.1 hC.2.1 hd ht (fun h => kt h p e s m args below meth c D dt b b0 H locs ls Qs hC hKK hR hb hS hl hu hF) (fun h => kf h p e s m args below meth c D dt b b0 H locs ls Qs hC hKK hR hb hS hl hu hF)
theorem zw_ifle {x : Int32} {off : Int} {tgt : Nat} (hd : decode y.2.1 pc = .ok (.ifCond .le off, 3)) (ht : (pc : Int) + off = (tgt : Int)) (kt : x ≤ 0 → zAW l y R tgt lc st σ uc us Q) (kf : ¬ (x ≤ 0) → zAW l y R (pc + 3) lc st σ uc us Q) : zAW l y R pc lc (.int x :: st) σ uc us Q := by
  intro p e s m args below meth c D dt b b0 H locs ls Qs hC hKK hR hb hS hl hu hF
  exact lv_if_le hC.1 hC.2.1 hd ht (fun h => kt h p e s m args below meth c D dt b b0 H locs ls Qs hC hKK hR hb hS hl hu hF) (fun h => kf h p e s m args below meth c D dt b b0 H locs ls Qs hC hKK hR hb hS hl hu hF)
theorem zw_icmple {x z : Int32} {off : Int} {tgt : Nat} (hd : decode y.2.1 pc = .ok (.if_icmp .le off, 3)) (ht : (pc : Int) + off = (tgt : Int)) (kt : x ≤ z → zAW l y R tgt lc st σ uc us Q) (kf : ¬ (x ≤ z) → zAW l y R (pc + 3) lc st σ uc us Q) : zAW l y R pc lc (.int z :: .int x :: st) σ uc us Q := by
  intro p e s m args below meth c D dt b b0 H locs ls Qs hC hKK hR hb hS hl hu hF
  exact lv_icmp_le hC.1 hC.2.1 hd ht (fun h => kt h p e s m args below meth c D dt b b0 H locs ls Qs hC hKK hR hb hS hl hu hF) (fun h => kf h p e s m args below meth c D dt b b0 H locs ls Qs hC hKK hR hb hS hl hu hF)
theorem zw_ifnonnull {a : Nat} {off : Int} {tgt : Nat} (hd : decode y.2.1 pc = .ok (.ifnonnull off, 3)) (ht : (pc : Int) + off = (tgt : Int)) (kk : zAW l y R tgt lc st σ uc us Q) : zAW l y R pc lc (.ref a :: st) σ uc us Q := by
  intro p e s m args below meth c D dt b b0 H locs ls Qs hC hKK hR hb hS hl hu hF
  exact lv_ifnonnull hC.1 hC.2.1 hd ht (kk p e s m args below meth c D dt b b0 H locs ls Qs hC hKK hR hb hS hl hu hF)
theorem zw_ifnull {a : Nat} {off : Int} (hd : decode y.2.1 pc = .ok (.ifnull off, 3)) (kk : zAW l y R (pc + 3) lc st σ uc us Q) : zAW l y R pc lc (.ref a :: st) σ uc us Q := by
  intro p e s m args below meth c D dt b b0 H locs ls Qs hC hKK hR hb hS hl hu hF
  exact lv_ifnull hC.1 hC.2.1 hd (kk p e s m args below meth c D dt b b0 H locs ls Qs hC hKK hR hb hS hl hu hF)
theorem zw_ifnullN {off : Int} {tgt : Nat} (hd : decode y.2.1 pc = .ok (.ifnull off, 3)) (ht : (pc : Int) + off = (tgt : Int)) (kk : zAW l y R tgt lc st σ uc us Q) : zAW l y R pc lc (.null :: st) σ uc us Q := by
  intro p e s m args below meth c D dt b b0 H locs ls Qs hC hKK hR hb hS hl hu hF
  exact lv_ifnullN hC.1 hC.2.1 hd ht (kk p e s m args below meth c D dt b b0 H locs ls Qs hC hKK hR hb hS hl hu hF)
theorem zw_ifnonnullN {off : Int} (hd : decode y.2.1 pc = .ok (.ifnonnull off, 3)) (kk : zAW l y R (pc + 3) lc st σ uc us Q) : zAW l y R pc lc (.null :: st) σ uc us Q := by
  intro p e s m args below meth c D dt b b0 H locs ls Qs hC hKK hR hb hS hl hu hF
  exact lv_ifnonnullN hC.1 hC.2.1 hd (kk p e s m args below meth c D dt b b0 H locs ls Qs hC hKK hR hb hS hl hu hF)
theorem zw_tableOut {dflt lo hi : Int} {offs : Array Int} {len : Nat} {x : Int32} {tgt : Nat} (hd : decode y.2.1 pc = .ok (.tableswitch dflt lo hi offs, len)) (h : x.toInt < lo ∨ hi < x.toInt) (ht : (pc : Int) + dflt = (tgt : Int)) (kk : zAW l y R tgt lc st σ uc us Q) : zAW l y R pc lc (.int x :: st) σ uc us Q := by
  intro p e s m args below meth c D dt b b0 H locs ls Qs hC hKK hR hb hS hl hu hF
  exact lv_tableOut hC.1 hC.2.1 hd h ht (kk p e s m args below meth c D dt b b0 H locs ls Qs hC hKK hR hb hS hl hu hF)
theorem zw_tableIn {dflt lo hi : Int} {offs : Array Int} {len : Nat} {x : Int32} {off : Int} {tgt : Nat} (hd : decode y.2.1 pc = .ok (.tableswitch dflt lo hi offs, len)) (h1 : ¬ x.toInt < lo) (h2 : ¬ hi < x.toInt) (ho : offs[(x.toInt - lo).toNat]? = some off) (ht : (pc : Int) + off = (tgt : Int)) (kk : zAW l y R tgt lc st σ uc us Q) : zAW l y R pc lc (.int x :: st) σ uc us Q := by
  intro p e s m args below meth c D dt b b0 H locs ls Qs hC hKK hR hb hS hl hu hF
  exact lv_tableIn hC.1 hC.2.1 hd h1 h2 ho ht (kk p e s m args below meth c D dt b b0 H locs ls Qs hC hKK hR hb hS hl hu hF)
end ZR
/-! stores into locals -/
def zLL (nL : Nat) (g : Nat → Nat) (lc : List (Nat × Value)) : List (Nat × Value) := (List.range nL).filterMap (fun i => (zlk lc i).map (fun v => (i, zv g v)))
theorem zLL_mem {nL : Nat} {g : Nat → Nat} {lc : List (Nat × Value)} {q : Nat × Value} : q ∈ zLL nL g lc ↔ q.1 < nL ∧ ∃ v, zlk lc q.1 = some v ∧ q.2 = zv g v := by
  unfold zLL
  rw [List.mem_filterMap]
  constructor
  · rintro ⟨i, hi, h⟩
    cases hz : zlk lc i with
    | none => rw [hz] at h; cases h
    | some v =>
      rw [hz] at h
      cases h
      exact ⟨List.mem_range.mp hi, v, hz, rfl⟩
  · rintro ⟨h1, v, h2, h3⟩
    exact ⟨q.1, List.mem_range.mpr h1, by rw [h2]; show some (q.1, zv g v) = some q; rw [← h3]⟩
theorem zHas.toL {ls : Array Slot} {nL : Nat} {g : Nat → Nat} {lc : List (Nat × Value)} (h : zHas ls nL g lc) : lv_has ls nL (zLL nL g lc) := ⟨h.1, h.2.1, fun q hq => by
  obtain ⟨-, v, h1, h2⟩ := zLL_mem.mp hq
  rw [h2]
  exact h.2.2 _ _ h1⟩
theorem zHas.place {ls : Array Slot} {nL : Nat} {g : Nat → Nat} {lc : List (Nat × Value)} (h : zHas ls nL g lc) {i : Nat} {v : Value} (hv : zlk lc i = some v) : ∃ k : Nat, (zLL nL g lc)[k]? = some (i, zv g v) := by
  have hi : i < nL := by
    have := h.2.2 i v hv
    rw [← h.1]
    exact lv_lt this
  exact List.getElem?_of_mem (zLL_mem.mpr ⟨hi, v, hv, rfl⟩)
theorem zHas.st {ls ls' : Array Slot} {nL : Nat} {g : Nat → Nat} {lc : List (Nat × Value)} {i : Nat} {v w : Value} (h : zHas ls nL g lc) (hw : w = zv g v) (h' : lv_has ls' nL ((i, w) :: (zLL nL g lc).filter (fun q => !(q.1 == i) && !(q.1 + 1 == i && q.2.category == 2)))) (ho : zlo lc i = true) : zHas ls' nL g ((i, v) :: lc) := by
  refine ⟨h'.1, h'.2.1, fun j u hu => ?_⟩
  unfold zlk at hu
  split at hu
  · rename_i e
    have e : i = j := e
    subst e
    cases hu
    rw [← hw]
    exact h'.2.2 (i, w) List.mem_cons_self
  · rename_i e
    have e : ¬ i = j := e
    have hj : j < nL := by rw [← h.1]; exact lv_lt (h.2.2 j u hu)
    refine h'.2.2 (j, zv g u) (List.mem_cons_of_mem _ (List.mem_filter.mpr ⟨zLL_mem.mpr ⟨hj, u, hu, rfl⟩, ?_⟩))
    have n1 : (j == i) = false := by simp; omega
    by_cases hji : j + 1 = i
    · subst hji
      have hc : (u.category == 1) = true := by
        have ho2 : (match zlk lc j with
          | some v => v.category == 1
          | none => true) = true := ho
        rw [hu] at ho2
        exact ho2
      have hc2 : ((zv g u).category == 2) = false := by
        rw [zv_cat]
        have : u.category = 1 := by simpa using hc
        rw [this]; rfl
      simp [n1, hc2]
    · have n2 : (j + 1 == i) = false := by simp; omega
      simp [n1, n2]
section ZR
variable {l : Launch} {y : zM} {R : Room} {pc : Nat} {lc : List (Nat × Value)} {st : List Value} {σ : zS} {uc us : Nat} {Q : Option Value → zS → Prop}
theorem zw_istore_n {k : Fin 4} {x : Int32} (hd : decode y.2.1 pc = .ok (.istore_n k, 1)) (hn : (k : Nat) < y.2.2.1) (ho : zlo lc (k : Nat) = true) (kk : zAW l y R (pc + 1) (((k : Nat), .int x) :: lc) st σ uc us Q) : zAW l y R pc lc (.int x :: st) σ uc us Q := by
  intro p e s m args below meth c D dt b b0 H locs ls Qs hC hKK hR hb hS hl hu hF
  exact lv_istore_n hC.1 hC.2.1 hd rfl hl.toL hn rfl (fun ls' hl' => kk p e s m args below meth c D dt b b0 H locs ls' Qs hC hKK hR hb hS (hl.st rfl hl' ho) hu hF)
theorem zw_istore {i : Nat} {x : Int32} (hd : decode y.2.1 pc = .ok (.istore i, 2)) (hn : i < y.2.2.1) (ho : zlo lc i = true) (kk : zAW l y R (pc + 2) ((i, .int x) :: lc) st σ uc us Q) : zAW l y R pc lc (.int x :: st) σ uc us Q := by
  intro p e s m args below meth c D dt b b0 H locs ls Qs hC hKK hR hb hS hl hu hF
  exact lv_istore hC.1 hC.2.1 hd hl.toL hn rfl (fun ls' hl' => kk p e s m args below meth c D dt b b0 H locs ls' Qs hC hKK hR hb hS (hl.st rfl hl' ho) hu hF)
theorem zw_astore_n {k : Fin 4} {a : Nat} (hd : decode y.2.1 pc = .ok (.astore_n k, 1)) (hn : (k : Nat) < y.2.2.1) (ho : zlo lc (k : Nat) = true) (kk : zAW l y R (pc + 1) (((k : Nat), .ref a) :: lc) st σ uc us Q) : zAW l y R pc lc (.ref a :: st) σ uc us Q := by
  intro p e s m args below meth c D dt b b0 H locs ls Qs hC hKK hR hb hS hl hu hF
  exact lv_astore_n hC.1 hC.2.1 hd rfl hl.toL hn rfl (fun ls' hl' => kk p e s m args below meth c D dt b b0 H locs ls' Qs hC hKK hR hb hS (hl.st rfl hl' ho) hu hF)
theorem zw_astore {i : Nat} {a : Nat} (hd : decode y.2.1 pc = .ok (.astore i, 2)) (hn : i < y.2.2.1) (ho : zlo lc i = true) (kk : zAW l y R (pc + 2) ((i, .ref a) :: lc) st σ uc us Q) : zAW l y R pc lc (.ref a :: st) σ uc us Q := by
  intro p e s m args below meth c D dt b b0 H locs ls Qs hC hKK hR hb hS hl hu hF
  exact lv_astore hC.1 hC.2.1 hd hl.toL hn rfl (fun ls' hl' => kk p e s m args below meth c D dt b b0 H locs ls' Qs hC hKK hR hb hS (hl.st rfl hl' ho) hu hF)
theorem zw_astore_nN {k : Fin 4} (hd : decode y.2.1 pc = .ok (.astore_n k, 1)) (hn : (k : Nat) < y.2.2.1) (ho : zlo lc (k : Nat) = true) (kk : zAW l y R (pc + 1) (((k : Nat), .null) :: lc) st σ uc us Q) : zAW l y R pc lc (.null :: st) σ uc us Q := by
  intro p e s m args below meth c D dt b b0 H locs ls Qs hC hKK hR hb hS hl hu hF
  exact lv_astore_nN hC.1 hC.2.1 hd rfl hl.toL hn rfl (fun ls' hl' => kk p e s m args below meth c D dt b b0 H locs ls' Qs hC hKK hR hb hS (hl.st rfl hl' ho) hu hF)
theorem zw_astoreN {i : Nat} (hd : decode y.2.1 pc = .ok (.astore i, 2)) (hn : i < y.2.2.1) (ho : zlo lc i = true) (kk : zAW l y R (pc + 2) ((i, .null) :: lc) st σ uc us Q) : zAW l y R pc lc (.null :: st) σ uc us Q := by
  intro p e s m args below meth c D dt b b0 H locs ls Qs hC hKK hR hb hS hl hu hF
  exact lv_astoreN hC.1 hC.2.1 hd hl.toL hn rfl (fun ls' hl' => kk p e s m args below meth c D dt b b0 H locs ls' Qs hC hKK hR hb hS (hl.st rfl hl' ho) hu hF)
theorem zw_iinc {i : Nat} {n : Int} {x : Int32} (hd : decode y.2.1 pc = .ok (.iinc i n, 3)) (hx : zlk lc i = some (.int x)) (hn : i < y.2.2.1) (ho : zlo lc i = true) (kk : zAW l y R (pc + 3) ((i, .int (x + Int32.ofInt n)) :: lc) st σ uc us Q) : zAW l y R pc lc st σ uc us Q := by
  intro p e s m args below meth c D dt b b0 H locs ls Qs hC hKK hR hb hS hl hu hF
  obtain ⟨k, hk⟩ := hl.place hx
  exact lv_iinc hC.1 hC.2.1 hd hl.toL hk rfl hn rfl (fun ls' hl' => kk p e s m args below meth c D dt b b0 H locs ls' Qs hC hKK hR hb hS (hl.st rfl hl' ho) hu hF)
end ZR
/-! fields, at the machine -/
section ZF
variable {p : Program} {l : Launch} {e : Env} {R : Room} {s : State} {m : MethodId} {args : Array Value} {below : List Frame} {meth : Method} {c : Code} {H : Heap} {locs : List Loc} {cells slots : Nat} {Q : State → Prop}
variable {cc : ByteArray} {pc : Nat} {ls : Array Slot} {rest : List Value} {D : va_G} {tys : List (ClassId × FieldType)}
theorem zz_get (hexec : p.tables.exec = Jvm.exec) (hb : c.code = cc) {own : String} {index ci k q : Nat} {V : Nat → Value} (hts : ∀ w ∈ zT, w.before args s = true) (hN : zNs s) (hown : s.vm.findClass own = some m.cls) (hK : va_K D vwCl tys s) (hf : zFL own index ci k) (hO : t_OB q (D.1 ci) (zcl ci).2.2 (D.2 ci) H V) (hdg : decode cc pc = .ok (.getfield index, 3))
    (kk : W p l e R s m args below meth c H locs cells slots Q (F0 m (pc + 3) ls (V k :: rest))) : W p l e R s m args below meth c H locs cells slots Q (F0 m pc ls (.ref q :: rest)) := by
  obtain ⟨⟨hc, hk⟩, hlink⟩ := hf
  obtain ⟨hv1, hin, hty, hnm⟩ := zCl_all ci hc
  obtain ⟨cell, q1, q2, q3, q4⟩ := hO
  obtain ⟨hS, hfc, kC, hkC, hkind⟩ := hK.1 ci _ hv1
  obtain ⟨cf, kf, fi, f, hi, hsl⟩ := hS k hk
  rcases hlink with hlink | ⟨host, hlink⟩
  · refine W.getf hexec hb hown (hts _ hlink) hi (u_facts hfc hkC (u_lays hts hin hk) hi).1 q1 (by rw [q3]; exact fun h => by cases h) (v := V k) ?_ rfl rfl hdg kk
    rw [hsl, q4 k hk]
  · refine va_Wgetf hexec hb hown (va_Nw.use rfl (hN.1 _ hlink)) hi (u_facts hfc hkC (u_lays hts hin hk) hi).1 q1 (by rw [q3]; exact fun h => by cases h) (v := V k) ?_ rfl rfl hdg kk
    rw [hsl, q4 k hk]
theorem zz_put (hexec : p.tables.exec = Jvm.exec) (hb : c.code = cc) {own : String} {index ci k q : Nat} {V : Nat → Value} {v : Value} (hts : ∀ w ∈ zT, w.before args s = true) (hN : zNs s) (hown : s.vm.findClass own = some m.cls) (hK : va_K D vwCl tys s) (hf : zFL own index ci k) (hO : t_OB q (D.1 ci) (zcl ci).2.2 (D.2 ci) H V) (hfin : ((zcl ci).2.1 k).2.2.2 = false) (hn : narrow (zFT ci k) v = v) (hfit : fits (zFT ci k) v = true) (hdg : decode cc pc = .ok (.putfield index, 3))
    (kk : ∀ (H1 : Heap) (k1 : Nat), t_OB q (D.1 ci) (zcl ci).2.2 (D.2 ci) H1 (updV V k v) → H1.size = H.size → (∀ x, x ≠ q → H1[x]? = H[x]?) → W p l e R s m args below meth c H1 (locs ++ [⟨q, k1⟩]) cells slots Q (F0 m (pc + 3) ls rest)) : W p l e R s m args below meth c H locs cells slots Q (F0 m pc ls (v :: .ref q :: rest)) := by
  obtain ⟨⟨hc, hk⟩, hlink⟩ := hf
  obtain ⟨hv1, hin, hty, hnm⟩ := zCl_all ci hc
  have hap := va_apart (own := own) hts hin (zFT ci) hty hnm hK hv1
  obtain ⟨cell, q1, q2, q3, q4⟩ := hO
  obtain ⟨hS, hfc, kC, hkC, hkind⟩ := hK.1 ci _ hv1
  obtain ⟨cf, kf, fi, f, hi, hsl⟩ := hS k hk
  have hlay := hts _ (hin _ (u_in_lay hk))
  unfold u_lay at hlay
  rw [if_neg (by rw [hfin]; decide)] at hlay
  have hst := (u_facts hfc hkC (u_lays hts hin hk) hi).1
  have h6 := u_store hfc hkC hkind hlay hi (hty k hk) hn hfit
  rcases hlink with hlink | ⟨host, hlink⟩
  · refine W.putK hexec hb (f := f) ⟨hown, hts _ hlink, ⟨_, _, _, hi⟩, hst⟩ (by rw [q2]; exact h6) q1 q3 (by rw [hsl]; exact k2_hasslot (q4 k hk)) rfl rfl hdg fun H' e1 e2 e3 => ?_
    rw [hsl] at e1 ⊢
    exact kk H' _ ⟨_, e1, q2, q3, t_set q4 hap hk v⟩ e2 e3
  · refine va_WputK hexec hb (f := f) hown (va_Nw.use rfl (hN.1 _ hlink)) hi hst (by rw [q2]; exact h6) q1 q3 (by rw [hsl]; exact k2_hasslot (q4 k hk)) rfl rfl hdg fun H' e1 e2 e3 => ?_
    rw [hsl] at e1 ⊢
    exact kk H' _ ⟨_, e1, q2, q3, t_set q4 hap hk v⟩ e2 e3
theorem zz_putF (hexec : p.tables.exec = Jvm.exec) (hb : c.code = cc) {own : String} {index ci k q : Nat} {V : Nat → Value} {v : Value} (hts : ∀ w ∈ zT, w.before args s = true) (hown : s.vm.findClass own = some m.cls) (hK : va_K D vwCl tys s) (hf : zFL own index ci k) (hnest : ∀ z ∈ zNF, ¬ (z.1 = own ∧ z.2.1 = index)) (hO : t_OB q (D.1 ci) (zcl ci).2.2 (D.2 ci) H V) (hfin : ((zcl ci).2.1 k).2.2.2 = true) (hdecl : ((zcl ci).2.1 k).1 = own) (hin2 : meth.name = "<init>") (hn : narrow (zFT ci k) v = v) (hfit : fits (zFT ci k) v = true) (hdg : decode cc pc = .ok (.putfield index, 3))
    (kk : ∀ (H1 : Heap) (k1 : Nat), t_OB q (D.1 ci) (zcl ci).2.2 (D.2 ci) H1 (updV V k v) → H1.size = H.size → (∀ x, x ≠ q → H1[x]? = H[x]?) → W p l e R s m args below meth c H1 (locs ++ [⟨q, k1⟩]) cells slots Q (F0 m (pc + 3) ls rest)) : W p l e R s m args below meth c H locs cells slots Q (F0 m pc ls (v :: .ref q :: rest)) := by
  obtain ⟨⟨hc, hk⟩, hlink⟩ := hf
  obtain ⟨hv1, hin, hty, hnm⟩ := zCl_all ci hc
  have hap := va_apart (own := own) hts hin (zFT ci) hty hnm hK hv1
  obtain ⟨cell, q1, q2, q3, q4⟩ := hO
  obtain ⟨hS, hfc, kC, hkC, hkind⟩ := hK.1 ci _ hv1
  obtain ⟨cf, kf, fi, f, hi, hsl⟩ := hS k hk
  have hlay := hts _ (hin _ (u_in_lay hk))
  unfold u_lay at hlay
  rw [if_pos hfin] at hlay
  have hst := (u_facts hfc hkC (u_lays hts hin hk) hi).1
  have hcf : m.cls = cf := by
    obtain ⟨_, _, c', _, _, _, -, -, hf', -, -, -, hown2, -⟩ := Cond.laysFinal_spec hlay
    have e1 : c' = cf := by have := hi.symm.trans hf'; simp at this; exact this.1.symm
    rw [hdecl] at hown2
    rw [← e1]; exact Option.some.inj (hown.symm.trans hown2)
  have h6 := u_fits hfc hkC hkind (Or.inr hlay) hi (hty k hk) hn hfit
  rcases hlink with hlink | ⟨host, hlink⟩
  · refine W.putFinK hexec hb hown (hts _ hlink) hi hst hcf hin2 (by rw [q2]; exact h6) q1 q3 (by rw [hsl]; exact k2_hasslot (q4 k hk)) rfl rfl hdg fun H' e1 e2 e3 => ?_
    rw [hsl] at e1 ⊢
    exact kk H' _ ⟨_, e1, q2, q3, t_set q4 hap hk v⟩ e2 e3
  · exact absurd ⟨rfl, rfl⟩ (hnest _ hlink)
end ZF
theorem zRep.obj {D : va_G} {dt : Nat → ClassId} {b b0 : Nat} {σ : zS} {U : State} {H : Heap} (h : zRep D dt b b0 σ U H) {a c : Nat} (hk : zK σ a = c) (hc : c < 100) : 0 < a ∧ a < zn σ ∧ zg b b0 a = b0 + a ∧ c < znC ∧ t_OB (zg b b0 a) (D.1 c) (zcl c).2.2 (D.2 c) H (fun j => zv (zg b b0) (zfv σ c j a)) := by
  have h0 := zWF_pos h.1 hk (by omega)
  have h1 := zWF_lt h.1 hk (by omega)
  have h2 := h.2.2.2.1 a h0 h1 (by rw [hk]; omega)
  unfold zAt at h2
  rw [hk, if_pos hc] at h2
  rw [zg_pos h0]
  exact ⟨h0, h1, rfl, h2.1, h2.2⟩
theorem zRep.arr {D : va_G} {dt : Nat → ClassId} {b b0 : Nat} {σ : zS} {U : State} {H : Heap} (h : zRep D dt b b0 σ U H) {a t : Nat} (hk : zK σ a = 100 + t) (h0 : 0 < a) (ht : t < 800) : a < zn σ ∧ zg b b0 a = b0 + a ∧ t < znA ∧ H[zg b b0 a]? = some (vp_cell (dt t) (zL σ a, zpay (zg b b0) σ a)) := by
  have h1 := zWF_lt h.1 hk (by omega)
  have h2 := h.2.2.2.1 a h0 h1 (by rw [hk]; omega)
  unfold zAt at h2
  rw [hk, if_neg (by omega), show 100 + t - 100 = t by omega] at h2
  rw [zg_pos h0]
  exact ⟨h1, rfl, by omega, h2.2⟩
/-- one cell written -/
theorem zRep.set {D : va_G} {dt : Nat → ClassId} {b b0 : Nat} {σ σ' : zS} {U : State} {H H1 : Heap} (h : zRep D dt b b0 σ U H) {a : Nat} (h0 : 0 < a) (ha : a < zn σ) (hz : H1.size = H.size) (ho : ∀ x, x ≠ b0 + a → H1[x]? = H[x]?) (hwf : zWF σ') (hn : zn σ' = zn σ)
    (hat : zAt D dt (zg b b0) σ' a H1 (b0 + a)) (e1 : ∀ x, x ≠ a → zK σ' x = zK σ x) (e2 : ∀ x, x ≠ a → zL σ' x = zL σ x) (e3 : ∀ x, x ≠ a → ∀ c k, zF σ' c k x = zF σ c k x) (e4 : ∀ x, x ≠ a → ∀ c k, zG σ' c k x = zG σ c k x) (e5 : ∀ x, x ≠ a → zI σ' x = zI σ x) (e6 : ∀ x, x ≠ a → zR σ' x = zR σ x) (e7 : ∀ x, x ≠ a → zJ σ' x = zJ σ x) : zRep D dt b b0 σ' U H1 := by
  refine ⟨hwf, by rw [hz, hn]; exact h.2.1, h.2.2.1, fun k k0 kn kq => ?_, ?_, h.2.2.2.2.2.kept (fun x _ hx => ho x (by omega))⟩
  · by_cases e : k = a
    · subst e
      exact hat
    · rw [hn] at kn
      exact ((h.2.2.2.1 k k0 kn (by rw [← e1 k e]; exact kq)).same (e1 k e) (e2 k e) (e3 k e) (e4 k e) (e5 k e) (e6 k e) (e7 k e)).kept (ho _ (by omega))
  · rw [e2 0 (by omega), e5 0 (by omega)]
    exact h.2.2.2.2.1.kept (ho b (by have := h.2.2.1; omega))
theorem zS.put {b0 a k : Nat} {H0 H H1 : Heap} {locs : List Loc} (h : va_S (fun q => b0 < q) H0 H locs) (z : H1.size = H.size) (ho : ∀ x, x ≠ b0 + a → H1[x]? = H[x]?) (h0 : 0 < a) : va_S (fun q => b0 < q) H0 H1 (locs ++ [⟨b0 + a, k⟩]) := va_S.put h z ho (by show b0 < b0 + a; omega)
section ZR2
variable {l : Launch} {y : zM} {R : Room} {pc : Nat} {lc : List (Nat × Value)} {st : List Value} {σ : zS} {uc us : Nat} {Q : Option Value → zS → Prop}
theorem zw_get {ix c k a : Nat} (hd : decode y.2.1 pc = .ok (.getfield ix, 3)) (hf : zFL y.1.cls ix c k) (hk : zK σ a = c) (hc : c < 100) (kk : zAW l y R (pc + 3) lc (zfv σ c k a :: st) σ uc us Q) : zAW l y R pc lc (.ref a :: st) σ uc us Q := by
  intro p e s m args below meth c D dt b b0 H locs ls Qs hC hKK hR hb hS hl hu hF
  obtain ⟨h0, h1, h2, h3, h4⟩ := hR.obj hk hc
  exact zz_get hC.1 hC.2.1 hC.2.2.2.2.2.1 hKK.2 hC.2.2.2.2.1 hKK.1 hf h4 hd (kk p e s m args below meth _ D dt b b0 H locs ls Qs hC hKK hR hb hS hl hu hF)
theorem zw_getI {ix c k a : Nat} (hd : decode y.2.1 pc = .ok (.getfield ix, 3)) (hf : zFL y.1.cls ix c k) (hi : zir c k = false) (hk : zK σ a = c) (hc : c < 100) (kk : zAW l y R (pc + 3) lc (.int (zF σ c k a) :: st) σ uc us Q) : zAW l y R pc lc (.ref a :: st) σ uc us Q := by
  refine zw_get hd hf hk hc ?_
  unfold zfv
  rw [if_neg (by rw [hi]; decide)]
  exact kk
theorem zw_getR {ix c k a o : Nat} (hd : decode y.2.1 pc = .ok (.getfield ix, 3)) (hf : zFL y.1.cls ix c k) (hi : zir c k = true) (hk : zK σ a = c) (hc : c < 100) (ho : zG σ c k a = some o) (kk : zAW l y R (pc + 3) lc (.ref o :: st) σ uc us Q) : zAW l y R pc lc (.ref a :: st) σ uc us Q := by
  refine zw_get hd hf hk hc ?_
  unfold zfv
  rw [if_pos hi, ho]
  exact kk
theorem zw_putI {ix c k a : Nat} {x : Int32} (hd : decode y.2.1 pc = .ok (.putfield ix, 3)) (hf : zFL y.1.cls ix c k) (hi : zir c k = false) (hfin : ((zcl c).2.1 k).2.2.2 = false) (hn : narrow (zFT c k) (.int x) = .int x ∧ fits (zFT c k) (.int x) = true) (hk : zK σ a = c) (hc : c < 100) (kk : zAW l y R (pc + 3) lc st (zsF σ c k a x) uc us Q) : zAW l y R pc lc (.int x :: .ref a :: st) σ uc us Q := by
  intro p e s m args below meth cd D dt b b0 H locs ls Qs hC hKK hR hb hS hl hu hF
  obtain ⟨h0, h1, h2, h3, h4⟩ := hR.obj hk hc
  rw [h2] at h4
  show W p l e R s m args below meth cd H locs uc us Qs (F0 m pc ls (.int x :: .ref (zg b b0 a) :: st.map (zv (zg b b0))))
  rw [h2]
  refine zz_put hC.1 hC.2.1 hC.2.2.2.2.2.1 hKK.2 hC.2.2.2.2.1 hKK.1 hf h4 hfin hn.1 hn.2 hd (fun H1 k1 g1 g2 g3 => ?_)
  refine kk p e s m args below meth cd D dt b b0 H1 _ ls Qs hC hKK (hR.set h0 h1 g2 g3 (zWF_sF hR.1 c k a x) rfl ?_ (fun _ _ => rfl) (fun _ _ => rfl) (fun z hz c' k' => ?_) (fun _ _ _ _ => rfl) (fun _ _ => rfl) (fun _ _ => rfl) (fun _ _ => rfl)) hb (hS.put g2 g3 (by show b0 < b0 + a; omega)) hl hu hF
  · unfold zAt
    rw [show zK (zsF σ c k a x) a = c from hk, if_pos hc]
    refine ⟨h3, g1.to (fun j _ => ?_)⟩
    by_cases e : j = k
    · subst e
      simp [updV, zfv, zF_zsF, hi, zv]
    · simp [updV, zfv, zF_zsF, zG_zsF, e]
  · rw [zF_zsF, if_neg (fun q => hz q.2.2)]
theorem zw_putR {ix c k a : Nat} {r : Option Nat} (hd : decode y.2.1 pc = .ok (.putfield ix, 3)) (hf : zFL y.1.cls ix c k) (hi : zir c k = true) (hfin : ((zcl c).2.1 k).2.2.2 = false ∨ (y.1.name = "<init>" ∧ ((zcl c).2.1 k).2.2.2 = true ∧ ((zcl c).2.1 k).1 = y.1.cls ∧ (∀ z ∈ zNF, ¬ (z.1 = y.1.cls ∧ z.2.1 = ix)))) (hn : ∀ v, (v = .null ∨ ∃ q, v = .ref q) → narrow (zFT c k) v = v ∧ fits (zFT c k) v = true) (hk : zK σ a = c) (hc : c < 100) (kk : zAW l y R (pc + 3) lc st (zsG σ c k a r) uc us Q) : zAW l y R pc lc (va_rf r :: .ref a :: st) σ uc us Q := by
  intro p e s m args below meth cd D dt b b0 H locs ls Qs hC hKK hR hb hS hl hu hF
  obtain ⟨h0, h1, h2, h3, h4⟩ := hR.obj hk hc
  rw [h2] at h4
  show W p l e R s m args below meth cd H locs uc us Qs (F0 m pc ls (zv (zg b b0) (va_rf r) :: .ref (zg b b0 a) :: st.map (zv (zg b b0))))
  rw [h2]
  have hv : zv (zg b b0) (va_rf r) = .null ∨ ∃ q, zv (zg b b0) (va_rf r) = .ref q := by
    cases r with
    | none => exact Or.inl rfl
    | some o => exact Or.inr ⟨_, rfl⟩
  have key : ∀ (H1 : Heap) (k1 : Nat), t_OB (b0 + a) (D.1 c) (zcl c).2.2 (D.2 c) H1 (updV (fun j => zv (zg b b0) (zfv σ c j a)) k (zv (zg b b0) (va_rf r))) → H1.size = H.size → (∀ x, x ≠ b0 + a → H1[x]? = H[x]?) → W p l e R s m args below meth cd H1 (locs ++ [⟨b0 + a, k1⟩]) uc us Qs (F0 m (pc + 3) ls (st.map (zv (zg b b0)))) := by
    intro H1 k1 g1 g2 g3
    refine kk p e s m args below meth cd D dt b b0 H1 _ ls Qs hC hKK (hR.set h0 h1 g2 g3 (zWF_sG hR.1 c k a r) rfl ?_ (fun _ _ => rfl) (fun _ _ => rfl) (fun _ _ _ _ => rfl) (fun z hz c' k' => ?_) (fun _ _ => rfl) (fun _ _ => rfl) (fun _ _ => rfl)) hb (hS.put g2 g3 (by show b0 < b0 + a; omega)) hl hu hF
    · unfold zAt
      rw [show zK (zsG σ c k a r) a = c from hk, if_pos hc]
      refine ⟨h3, g1.to (fun j _ => ?_)⟩
      by_cases e : j = k
      · subst e
        simp [updV, zfv, zG_zsG, hi]
      · simp [updV, zfv, zG_zsG, zF_zsG, e]
    · rw [zG_zsG, if_neg (fun q => hz q.2.2)]
  rcases hfin with hfin | ⟨hi1, hfin, hdecl, hnest⟩
  · exact zz_put hC.1 hC.2.1 hC.2.2.2.2.2.1 hKK.2 hC.2.2.2.2.1 hKK.1 hf h4 hfin (hn _ hv).1 (hn _ hv).2 hd key
  · exact zz_putF hC.1 hC.2.1 hC.2.2.2.2.2.1 hC.2.2.2.2.1 hKK.1 hf hnest h4 hfin hdecl (hC.2.2.2.2.2.2.2.1 hi1) (hn _ hv).1 (hn _ hv).2 hd key
end ZR2
end
section
/-! arrays -/
section ZA
variable {l : Launch} {y : zM} {R : Room} {pc : Nat} {lc : List (Nat × Value)} {st : List Value} {σ : zS} {uc us : Nat} {Q : Option Value → zS → Prop}
theorem vp_in_lt {i : Int32} {n : Nat} (h : vp_in i n) : i.toNatClampNeg < n := Nat.not_le.mp fun q => h (Or.inr q)
theorem zpay_i {g : Nat → Nat} {σ : zS} {a t : Nat} (hk : zK σ a = 100 + t) (h : zak t = 0) : zpay g σ a = .inl (zI σ a) := by
  unfold zpay
  rw [hk, show 100 + t - 100 = t by omega, if_pos h]
theorem zpay_l {g : Nat → Nat} {σ : zS} {a t : Nat} (hk : zK σ a = 100 + t) (h : zak t = 1) : zpay g σ a = .inr (.inl (zJ σ a)) := by
  unfold zpay
  rw [hk, show 100 + t - 100 = t by omega, if_neg (by omega), if_pos h]
theorem zpay_r {g : Nat → Nat} {σ : zS} {a t : Nat} (hk : zK σ a = 100 + t) (h : zak t = 2) : zpay g σ a = .inr (.inr (.inr (.inr (fun i => (zR σ a i).map g)))) := by
  unfold zpay
  rw [hk, show 100 + t - 100 = t by omega, if_neg (by omega), if_neg (by omega)]
theorem zw_iaload {a : Nat} {i : Int32} (hd : decode y.2.1 pc = .ok (.iaload, 1)) (hk : zK σ a = 100) (hin : vp_in i (zL σ a)) (kk : zAW l y R (pc + 1) lc (.int (zI σ a i.toNatClampNeg) :: st) σ uc us Q) : zAW l y R pc lc (.int i :: .ref a :: st) σ uc us Q := by
  intro p e s m args below meth c D dt b b0 H locs ls Qs hC hKK hR hb hS hl hu hF
  have kk2 := kk p e s m args below meth c D dt b b0 H locs ls Qs hC hKK hR hb hS hl hu hF
  have hlt := vp_in_lt hin
  rcases Nat.eq_zero_or_pos a with h0 | h0
  · subst h0
    obtain ⟨scr, g1, g2, g3, g4, g5⟩ := hR.2.2.2.2.1
    exact W.iald (v := .int (zI σ 0 i.toNatClampNeg)) hC.1 hC.2.1 g1 g2 g3 (by rw [g4]; exact hin) (g5 _ hlt) rfl rfl hd kk2
  · obtain ⟨h1, h2, h3, h4⟩ := hR.arr (t := 0) hk h0 (by decide)
    rw [zpay_i (t := 0) hk (by decide), vp_cell_i] at h4
    exact W.iald (v := .int (zI σ a i.toNatClampNeg)) hC.1 hC.2.1 h4 ((hKK.arr h3).1 _ _) (fun q => by cases q) (by rw [arrV_size]; exact hin) (arrV_read _ _ hlt) rfl rfl hd kk2
theorem zw_baload {a : Nat} {i : Int32} (hd : decode y.2.1 pc = .ok (.baload, 1)) (hk : zK σ a = 101) (hin : vp_in i (zL σ a)) (kk : zAW l y R (pc + 1) lc (.int (zI σ a i.toNatClampNeg) :: st) σ uc us Q) : zAW l y R pc lc (.int i :: .ref a :: st) σ uc us Q := by
  intro p e s m args below meth c D dt b b0 H locs ls Qs hC hKK hR hb hS hl hu hF
  have kk2 := kk p e s m args below meth c D dt b b0 H locs ls Qs hC hKK hR hb hS hl hu hF
  have hlt := vp_in_lt hin
  have h0 := zWF_pos hR.1 hk (by decide)
  obtain ⟨h1, h2, h3, h4⟩ := hR.arr (t := 1) hk h0 (by decide)
  rw [zpay_i (t := 1) hk (by decide), vp_cell_i] at h4
  exact W.zald (v := .int (zI σ a i.toNatClampNeg)) hC.1 hC.2.1 h4 ((hKK.arr h3).1 _ _) (fun q => by cases q) (by rw [arrV_size]; exact hin) (arrV_read _ _ hlt) rfl rfl hd kk2
theorem zw_aaload {a t : Nat} {i : Int32} (hd : decode y.2.1 pc = .ok (.aaload, 1)) (hk : zK σ a = 100 + t) (hz : zak t = 2) (ht : t < 800) (hin : vp_in i (zL σ a)) (kk : zAW l y R (pc + 1) lc (va_rf (zR σ a i.toNatClampNeg) :: st) σ uc us Q) : zAW l y R pc lc (.int i :: .ref a :: st) σ uc us Q := by
  intro p e s m args below meth c D dt b b0 H locs ls Qs hC hKK hR hb hS hl hu hF
  have kk2 := kk p e s m args below meth c D dt b b0 H locs ls Qs hC hKK hR hb hS hl hu hF
  have hlt := vp_in_lt hin
  have ht0 : t ≠ 0 := fun q => by subst q; exact absurd hz (by decide)
  have h0 := zWF_pos hR.1 hk (by omega)
  obtain ⟨h1, h2, h3, h4⟩ := hR.arr (t := t) hk h0 ht
  rw [zpay_r hk hz, vp_cell_q] at h4
  have hty : (zAT t).isReference = true := by
    unfold zak at hz
    split at hz
    · assumption
    · split at hz <;> omega
  exact W.aald (v := zv (zg b b0) (va_rf (zR σ a i.toNatClampNeg))) (ty := zAT t) hC.1 hC.2.1 h4 ((hKK.arr h3).1 _ _) hty (fun q => by cases q) (by rw [arrV_size]; exact hin) (by rw [arrV_read _ _ hlt, zv_rf]) rfl rfl hd kk2
theorem zw_laload {a t : Nat} {i : Int32} (hd : decode y.2.1 pc = .ok (.laload, 1)) (hk : zK σ a = 100 + t) (hz : zAT t = .long) (ht : t < 800) (hin : vp_in i (zL σ a)) (kk : zAW l y R (pc + 1) lc (.long (zJ σ a i.toNatClampNeg) :: st) σ uc us Q) : zAW l y R pc lc (.int i :: .ref a :: st) σ uc us Q := by
  intro p e s m args below meth c D dt b b0 H locs ls Qs hC hKK hR hb hS hl hu hF
  have kk2 := kk p e s m args below meth c D dt b b0 H locs ls Qs hC hKK hR hb hS hl hu hF
  have hlt := vp_in_lt hin
  have ht0 : t ≠ 0 := fun q => by subst q; exact absurd hz (by decide)
  have h0 := zWF_pos hR.1 hk (by omega)
  obtain ⟨h1, h2, h3, h4⟩ := hR.arr (t := t) hk h0 ht
  have hz1 : zak t = 1 := by unfold zak; rw [hz]; rfl
  rw [zpay_l hk hz1, vp_cell_l] at h4
  have harr := (hKK.arr h3).1
  rw [hz] at harr
  exact W.lald (v := .long (zJ σ a i.toNatClampNeg)) hC.1 hC.2.1 h4 (harr _ _) (fun q => by cases q) (by rw [arrV_size]; exact hin) (arrV_read _ _ hlt) rfl rfl hd kk2
theorem zw_alen {a t : Nat} (hd : decode y.2.1 pc = .ok (.arraylength, 1)) (hk : zK σ a = 100 + t) (ht : t < 800) (kk : zAW l y R (pc + 1) lc (.int (nI (zL σ a)) :: st) σ uc us Q) : zAW l y R pc lc (.ref a :: st) σ uc us Q := by
  intro p e s m args below meth c D dt b b0 H locs ls Qs hC hKK hR hb hS hl hu hF
  have kk2 := kk p e s m args below meth c D dt b b0 H locs ls Qs hC hKK hR hb hS hl hu hF
  rcases Nat.eq_zero_or_pos a with h0 | h0
  · subst h0
    obtain ⟨scr, g1, g2, g3, g4, g5⟩ := hR.2.2.2.2.1
    exact W.alen (n := nI (zL σ 0)) hC.1 hC.2.1 g1 g2 (by rw [g4]; rfl) rfl rfl hd kk2
  · obtain ⟨h1, h2, h3, h4⟩ := hR.arr (t := t) hk h0 ht
    have hsz : ∀ x : (Nat → Int32) ⊕ (Nat → Int64) ⊕ (Nat → UInt32) ⊕ (Nat → UInt64) ⊕ (Nat → Option Nat), (vp_cell (dt t) (zL σ a, x)).slots.size = zL σ a := by
      rintro (f | f | f | f | f) <;> exact arrV_size _ _ _
    have har : ∀ x : (Nat → Int32) ⊕ (Nat → Int64) ⊕ (Nat → UInt32) ⊕ (Nat → UInt64) ⊕ (Nat → Option Nat), s.isArrayOf (vp_cell (dt t) (zL σ a, x)) (zAT t) := by
      rintro (f | f | f | f | f) <;> exact (hKK.arr h3).1 _ _
    exact W.alen (n := nI (zL σ a)) hC.1 hC.2.1 h4 (har _) (by rw [hsz]; rfl) rfl rfl hd kk2
theorem zw_iastore {a : Nat} {i x : Int32} (hd : decode y.2.1 pc = .ok (.iastore, 1)) (hk : zK σ a = 100) (h0 : 0 < a) (hin : vp_in i (zL σ a)) (kk : zAW l y R (pc + 1) lc st (zsI σ a i.toNatClampNeg x) uc us Q) : zAW l y R pc lc (.int x :: .int i :: .ref a :: st) σ uc us Q := by
  intro p e s m args below meth c D dt b b0 H locs ls Qs hC hKK hR hb hS hl hu hF
  obtain ⟨h1, h2, h3, h4⟩ := hR.arr (t := 0) hk h0 (by decide)
  rw [zpay_i (t := 0) hk (by decide), vp_cell_i] at h4
  refine W.iast hC.1 hC.2.1 h4 ((hKK.arr h3).1 _ _) (fun q => by cases q) (by rw [arrV_size]; exact hin) rfl rfl hd fun H1 e1 z oq => ?_
  rw [h2] at e1 oq ⊢
  refine kk p e s m args below meth c D dt b b0 H1 _ ls Qs hC hKK (hR.set h0 h1 z oq (zWF_sI hR.1 a _ x) rfl ?_ (fun _ _ => rfl) (fun _ _ => rfl) (fun _ _ _ _ => rfl) (fun _ _ _ _ => rfl) (fun q hq => funext fun j => ?_) (fun _ _ => rfl) (fun _ _ => rfl)) hb (zS.put hS z oq h0) hl hu hF
  · unfold zAt
    rw [show zK (zsI σ a i.toNatClampNeg x) a = 100 from hk, if_neg (by decide)]
    refine ⟨by decide, ?_⟩
    rw [zpay_i (σ := zsI σ a i.toNatClampNeg x) (t := 0) hk (by decide), vp_cell_i, e1, arrV_store]
    congr 2
    funext j
    by_cases hj : j = i.toNatClampNeg
    · subst hj
      simp [updV, zI_zsI]
    · simp [updV, zI_zsI, hj]
  · rw [zI_zsI, if_neg (fun z => hq z.1)]
theorem zw_bastore {a : Nat} {i x : Int32} (hd : decode y.2.1 pc = .ok (.bastore, 1)) (hk : zK σ a = 101) (hx : narrow .boolean (.int x) = .int x) (hin : vp_in i (zL σ a)) (kk : zAW l y R (pc + 1) lc st (zsI σ a i.toNatClampNeg x) uc us Q) : zAW l y R pc lc (.int x :: .int i :: .ref a :: st) σ uc us Q := by
  intro p e s m args below meth c D dt b b0 H locs ls Qs hC hKK hR hb hS hl hu hF
  have h0 := zWF_pos hR.1 hk (by decide)
  obtain ⟨h1, h2, h3, h4⟩ := hR.arr (t := 1) hk h0 (by decide)
  rw [zpay_i (t := 1) hk (by decide), vp_cell_i] at h4
  refine W.zast hC.1 hC.2.1 h4 ((hKK.arr h3).1 _ _) (fun q => by cases q) (by rw [arrV_size]; exact hin) rfl rfl hd fun H1 e1 z oq => ?_
  rw [h2] at e1 oq ⊢
  refine kk p e s m args below meth c D dt b b0 H1 _ ls Qs hC hKK (hR.set h0 h1 z oq (zWF_sI hR.1 a _ x) rfl ?_ (fun _ _ => rfl) (fun _ _ => rfl) (fun _ _ _ _ => rfl) (fun _ _ _ _ => rfl) (fun q hq => funext fun j => ?_) (fun _ _ => rfl) (fun _ _ => rfl)) hb (zS.put hS z oq h0) hl hu hF
  · unfold zAt
    rw [show zK (zsI σ a i.toNatClampNeg x) a = 101 from hk, if_neg (by decide)]
    refine ⟨by decide, ?_⟩
    rw [zpay_i (σ := zsI σ a i.toNatClampNeg x) (t := 1) hk (by decide), vp_cell_i, e1, hx, arrV_store]
    congr 2
    funext j
    by_cases hj : j = i.toNatClampNeg
    · subst hj
      simp [updV, zI_zsI]
    · simp [updV, zI_zsI, hj]
  · rw [zI_zsI, if_neg (fun z => hq z.1)]
theorem zw_lastore {a t : Nat} {i : Int32} {x : Int64} (hd : decode y.2.1 pc = .ok (.lastore, 1)) (hk : zK σ a = 100 + t) (hz : zAT t = .long) (ht : t < 800) (hin : vp_in i (zL σ a)) (kk : zAW l y R (pc + 1) lc st (zsJ σ a i.toNatClampNeg x) uc us Q) : zAW l y R pc lc (.long x :: .int i :: .ref a :: st) σ uc us Q := by
  intro p e s m args below meth c D dt b b0 H locs ls Qs hC hKK hR hb hS hl hu hF
  have ht0 : t ≠ 0 := fun q => by subst q; exact absurd hz (by decide)
  have h0 := zWF_pos hR.1 hk (by omega)
  obtain ⟨h1, h2, h3, h4⟩ := hR.arr (t := t) hk h0 ht
  have hz1 : zak t = 1 := by unfold zak; rw [hz]; rfl
  rw [zpay_l hk hz1, vp_cell_l] at h4
  have harr := (hKK.arr h3).1
  rw [hz] at harr
  refine W.last hC.1 hC.2.1 h4 (harr _ _) (fun q => by cases q) (by rw [arrV_size]; exact hin) rfl rfl hd fun H1 e1 z oq => ?_
  rw [h2] at e1 oq ⊢
  refine kk p e s m args below meth c D dt b b0 H1 _ ls Qs hC hKK (hR.set h0 h1 z oq (zWF_sJ hR.1 a _ x) rfl ?_ (fun _ _ => rfl) (fun _ _ => rfl) (fun _ _ _ _ => rfl) (fun _ _ _ _ => rfl) (fun _ _ => rfl) (fun _ _ => rfl) (fun q hq => funext fun j => ?_)) hb (zS.put hS z oq h0) hl hu hF
  · unfold zAt
    rw [show zK (zsJ σ a i.toNatClampNeg x) a = 100 + t from hk, if_neg (by omega)]
    refine ⟨by omega, ?_⟩
    rw [show 100 + t - 100 = t by omega, zpay_l (σ := zsJ σ a i.toNatClampNeg x) (t := t) hk hz1, vp_cell_l, e1, arrV_store]
    congr 2
    funext j
    by_cases hj : j = i.toNatClampNeg
    · subst hj
      simp [updV, zJ_zsJ]
    · simp [updV, zJ_zsJ, hj]
  · rw [zJ_zsJ, if_neg (fun z => hq z.1)]
/-- an object put into an array of its class -/
theorem zw_aastore {a t v c' : Nat} {i : Int32} (hd : decode y.2.1 pc = .ok (.aastore, 1)) (hk : zK σ a = 100 + t) (ht : t < 800) (hz : zAT t = .object (zcl c').1) (hv : zK σ v = c') (hc : c' < 100) (hin : vp_in i (zL σ a)) (kk : zAW l y R (pc + 1) lc st (zsR σ a i.toNatClampNeg (some v)) uc us Q) : zAW l y R pc lc (.ref v :: .int i :: .ref a :: st) σ uc us Q := by
  intro p e s m args below meth c D dt b b0 H locs ls Qs hC hKK hR hb hS hl hu hF
  have hz2 : zak t = 2 := by unfold zak; rw [hz]; rfl
  have ht0 : t ≠ 0 := fun q => by subst q; exact absurd hz2 (by decide)
  have h0 := zWF_pos hR.1 hk (by omega)
  obtain ⟨h1, h2, h3, h4⟩ := hR.arr (t := t) hk h0 ht
  rw [zpay_r hk hz2, vp_cell_q] at h4
  obtain ⟨w0, w1, w2, w3, cellV, g1, g2, g3, -⟩ := hR.obj hv hc
  have hcls := (hKK.1.1 c' _ (zCl_all c' w3).1).2
  have hra := (hKK.arr h3).2
  rw [hz] at hra
  obtain ⟨kA, comp, k1, k2, k3, -⟩ := hra
  have hcomp : comp = D.1 c' := Option.some.inj (k3.symm.trans hcls.1)
  subst hcomp
  obtain ⟨kC, hkC, -⟩ := hcls.2
  refine W.aast hC.1 hC.2.1 h4 (fun q h => by cases h) (fun h => by cases h) k1 k2 rfl hkC ⟨fun q => hin (Or.inl q), by rw [arrV_size]; exact vp_in_lt hin⟩ g1 (fun q h => by rw [g3] at h; cases h) (by rw [g2]; exact hkC) (by rw [g2]; exact va_assign hcls) rfl rfl hd fun H1 e1 z oq => ?_
  rw [h2] at e1 oq ⊢
  refine kk p e s m args below meth c D dt b b0 H1 _ ls Qs hC hKK (hR.set h0 h1 z oq (zWF_sR hR.1 a _ (some v)) rfl ?_ (fun _ _ => rfl) (fun _ _ => rfl) (fun _ _ _ _ => rfl) (fun _ _ _ _ => rfl) (fun _ _ => rfl) (fun q hq => funext fun j => ?_) (fun _ _ => rfl)) hb (zS.put hS z oq h0) hl hu hF
  · unfold zAt
    rw [show zK (zsR σ a i.toNatClampNeg (some v)) a = 100 + t from hk, if_neg (by omega)]
    refine ⟨by omega, ?_⟩
    rw [show 100 + t - 100 = t by omega, zpay_r (σ := zsR σ a i.toNatClampNeg (some v)) (t := t) hk hz2, vp_cell_q, e1, arrV_store]
    congr 2
    funext j
    by_cases hj : j = i.toNatClampNeg
    · subst hj
      simp [updV, zR_zsR, va_rf]
    · simp [updV, zR_zsR, hj]
  · rw [zR_zsR, if_neg (fun z => hq z.1)]
/-- one cell come new -/
theorem zRep.push {D : va_G} {dt : Nat → ClassId} {b b0 : Nat} {σ σ' : zS} {U : State} {H H1 : Heap} (h : zRep D dt b b0 σ U H) (hz : H1.size = H.size + 1) (ho : ∀ x, x < H.size → H1[x]? = H[x]?) (hwf : zWF σ') (hn : zn σ' = zn σ + 1)
    (hat : zAt D dt (zg b b0) σ' (zn σ) H1 (b0 + zn σ)) (e1 : ∀ x, x ≠ zn σ → zK σ' x = zK σ x) (e2 : ∀ x, x ≠ zn σ → zL σ' x = zL σ x) (e3 : ∀ x, x ≠ zn σ → ∀ c k, zF σ' c k x = zF σ c k x) (e4 : ∀ x, x ≠ zn σ → ∀ c k, zG σ' c k x = zG σ c k x) (e5 : ∀ x, x ≠ zn σ → zI σ' x = zI σ x) (e6 : ∀ x, x ≠ zn σ → zR σ' x = zR σ x) (e7 : ∀ x, x ≠ zn σ → zJ σ' x = zJ σ x) : zRep D dt b b0 σ' U H1 := by
  have hpos := h.1.1
  refine ⟨hwf, by rw [hz, hn, h.2.1]; omega, h.2.2.1, fun k k0 kn kq => ?_, ?_, h.2.2.2.2.2.kept (fun x hx _ => ho x hx)⟩
  · by_cases e : k = zn σ
    · subst e
      exact hat
    · rw [hn] at kn
      exact ((h.2.2.2.1 k k0 (by omega) (by rw [← e1 k e]; exact kq)).same (e1 k e) (e2 k e) (e3 k e) (e4 k e) (e5 k e) (e6 k e) (e7 k e)).kept (ho _ (by rw [h.2.1]; omega))
  · rw [e2 0 (by omega), e5 0 (by omega)]
    exact h.2.2.2.2.1.kept (ho b (by have := h.2.2.1; rw [h.2.1]; omega))
theorem zS.grow {b0 : Nat} {H0 H H1 : Heap} {locs : List Loc} (h : va_S (fun q => b0 < q) H0 H locs) (z : H.size ≤ H1.size) (ho : ∀ x, x < H.size → H1[x]? = H[x]?) : va_S (fun q => b0 < q) H0 H1 locs := ⟨Nat.le_trans h.1 z, fun x h1 h2 => (ho x (Nat.lt_of_lt_of_le h1 h.1)).trans (h.2.1 x h1 h2), h.2.2⟩
theorem zw_new {ix c : Nat} (hd : decode y.2.1 pc = .ok (.new ix, 3)) (hf : zNW y.1.cls ix c) (hdef : ∀ k, k < (zcl c).2.2 → defaultValue (zFT c k) = if zir c k = true then .null else .int 0) (hc : c < 100) (hrm : uc + 1 ≤ R.cells ∧ us + (zcl c).2.2 ≤ R.slots) (kk : zAW l y R (pc + 3) lc (.ref (zn σ) :: st) (znC1 σ c) (uc + 1) (us + (zcl c).2.2) Q) : zAW l y R pc lc st σ uc us Q := by
  intro p e s m args below meth cd D dt b b0 H locs ls Qs hC hKK hR hb hS hl hu hF
  obtain ⟨h1, h2, h3, h4⟩ := hf
  obtain ⟨hv1, hin, hty, hnm⟩ := zCl_all c h1
  have hts := hC.2.2.2.2.2.1
  have hKn := hKK.1.1 c _ hv1
  refine W.newcK hC.1 hC.2.1 hC.2.2.2.2.1 (hts _ h2) (hts _ h3) (hts _ h4) rfl hd hrm.1 hrm.2 hKn.2.1 hR.2.1 fun H1 kC hkC e1 z1 o1 => ?_
  rw [← zg_pos (b := b) hR.1.1] at *
  have e2 := u_born (zFT c) hts hin hKn hkC e1 hty
  refine kk p e s m args below meth cd D dt b b0 H1 _ ls Qs hC hKK (hR.push (by rw [z1, zg_pos hR.1.1, hR.2.1]) (fun x hx => o1 x (by rw [zg_pos hR.1.1, ← hR.2.1]; exact hx)) (zWF_C1 hR.1 c) rfl ?_ (fun x hx => ?_) (fun _ _ => rfl) (fun x hx c k => ?_) (fun x hx c k => ?_) (fun _ _ => rfl) (fun _ _ => rfl) (fun _ _ => rfl)) hb (zS.grow hS (by rw [z1, zg_pos hR.1.1, hR.2.1]; omega) (fun x hx => o1 x (by rw [zg_pos hR.1.1, ← hR.2.1]; exact hx))) hl hrm hF
  · unfold zAt
    rw [zK_znC1, if_pos rfl, if_pos hc]
    refine ⟨h1, ?_⟩
    rw [← zg_pos (b := b) hR.1.1]
    refine e2.to (fun k hk => ?_)
    rw [hdef k hk]
    unfold zfv
    by_cases q : zir c k = true
    · rw [if_pos q, if_pos q, zG_znC1, if_pos rfl]
      rfl
    · rw [if_neg q, if_neg q, zF_znC1, if_pos rfl]
      rfl
  · rw [zK_znC1, if_neg hx]
  · rw [zF_znC1, if_neg hx]
  · rw [zG_znC1, if_neg hx]
/-- a new array of numbers -/
theorem zw_newarray {at0 : ArrayType} {t : Nat} {n : Int32} (hd : decode y.2.1 pc = .ok (.newarray at0, 2)) (ht : t < znA) (ht2 : t < 800) (hty : newarray.typeOf at0 = zAT t) (hw : Cond.arrayClass (newarray.typeOf at0) ∈ zT) (hdef : ∀ c N, vp_cell c (N, if zak t = 0 then .inl (fun _ => 0) else if zak t = 1 then .inr (.inl (fun _ => 0)) else .inr (.inr (.inr (.inr (fun _ => none))))) = arrV c N (fun _ => defaultValue (newarray.typeOf at0))) (hn : ¬ n < 0) (hby : n.toNatClampNeg * componentBytes (newarray.typeOf at0) ≤ 536870912) (hrm : uc + 1 ≤ R.cells ∧ us + n.toNatClampNeg ≤ R.slots) (kk : zAW l y R (pc + 2) lc (.ref (zn σ) :: st) (znA1 σ t n.toNatClampNeg) (uc + 1) (us + n.toNatClampNeg) Q) : zAW l y R pc lc (.int n :: st) σ uc us Q := by
  intro p e s m args below meth c D dt b b0 H locs ls Qs hC hKK hR hb hS hl hu hF
  have hts := hC.2.2.2.2.2.1
  have hg : b0 + zn σ = zg b b0 (zn σ) := (zg_pos hR.1.1).symm
  refine va_newaK hC.1 hC.2.1 (hts _ hw) rfl hd rfl hn rfl hby hrm.1 hrm.2 hR.2.1 fun H1 cA e1 z1 o1 hAr hNm => ?_
  have hcA : cA = dt t := by
    have h2 := (hKK.arr ht).2
    rw [← hty] at h2
    have h3 : s.vm.findClass ("[" ++ (newarray.typeOf at0).toString) = some (dt t) := by
      cases at0 <;> exact h2
    exact Option.some.inj (hNm.symm.trans h3)
  subst hcA
  have hz : H1.size = H.size + 1 := by rw [z1, hR.2.1]
  have ho : ∀ x, x < H.size → H1[x]? = H[x]? := fun x hx => o1 x (by rw [← hR.2.1]; exact hx)
  have hk := kk p e s m args below meth c D dt b b0 H1 locs ls Qs hC hKK (hR.push hz ho (zWF_A1 hR.1 t _) rfl ?_ (fun x hx => ?_) (fun x hx => ?_) (fun _ _ _ _ => rfl) (fun _ _ _ _ => rfl) (fun x hx => funext fun j => ?_) (fun x hx => funext fun j => ?_) (fun x hx => funext fun j => ?_)) hb (zS.grow hS (by omega) ho) hl hrm hF
  · rw [hg]
    exact hk
  · unfold zAt
    have hK2 : zK (znA1 σ t n.toNatClampNeg) (zn σ) = 100 + t := by rw [zK_znA1, if_pos rfl]
    rw [hK2, if_neg (by omega), show 100 + t - 100 = t by omega, e1]
    refine ⟨by omega, ?_⟩
    rw [← hdef]
    congr 2
    rw [zL_znA1, if_pos rfl]
    congr 1
    unfold zpay
    rw [hK2, show 100 + t - 100 = t by omega]
    have f1 : zI (znA1 σ t n.toNatClampNeg) (zn σ) = fun _ => 0 := funext fun j => by rw [zI_znA1, if_pos rfl]
    have f2 : zJ (znA1 σ t n.toNatClampNeg) (zn σ) = fun _ => 0 := funext fun j => by rw [zJ_znA1, if_pos rfl]
    have f3 : (fun i => (zR (znA1 σ t n.toNatClampNeg) (zn σ) i).map (zg b b0)) = fun _ => none := funext fun j => by rw [zR_znA1, if_pos rfl]; rfl
    rw [f1, f2, f3]
  · rw [zK_znA1, if_neg hx]
  · rw [zL_znA1, if_neg hx]
  · rw [zI_znA1, if_neg hx]
  · rw [zR_znA1, if_neg hx]
  · rw [zJ_znA1, if_neg hx]
end ZA
end
section
/-! calls -/
/-- a method's contract: from the heap σ, with these arguments, it answers as Q says; at most mc cells of ms parts are new -/
def zAM (l : Launch) (y : zM) (F Lc mc ms : Nat) (av : List Value) (σ : zS) (Q : Option Value → zS → Prop) : Prop :=
  ∀ (D : va_G) (dt : Nat → ClassId) (b b0 : Nat), Met l y.1 (zW y) { frames := F, cells := mc, slots := ms, locals := Lc }
    (va_Pc (av.map (zv (zg b b0))) (fun U => zRep D dt b b0 σ U U.heap ∧ zKK D dt U ∧ b0 + 1 ≤ U.heap.size))
    (fun _ st o t => (∃ v σ', o = .returned (v.map (zv (zg b b0))) ∧ Q v σ' ∧ zRep D dt b b0 σ' t t.heap ∧ zKK D dt t) ∧ va_F (fun q => b0 < q) st t)
    mc ms (fun q => b0 < q)
theorem lv_args_map (g : Nat → Nat) : ∀ (vs : List Value) (i : Nat), lv_args i (vs.map (zv g)) = (lv_args i vs).map (fun q => (q.1, zv g q.2))
  | [], i => rfl
  | v :: r, i => by
    show lv_args i (zv g v :: r.map (zv g)) = _
    simp only [lv_args, List.map_cons, zv_cat, lv_args_map g r]
theorem zlk_mem : ∀ {lc : List (Nat × Value)} {i : Nat} {v : Value}, zlk lc i = some v → (i, v) ∈ lc
  | [], i, v, h => by cases h
  | q :: r, i, v, h => by
    unfold zlk at h
    split at h
    · rename_i e
      cases h
      subst e
      exact List.mem_cons_self
    · exact List.mem_cons_of_mem _ (zlk_mem h)
section ZMet
variable {l : Launch} {y : zM}
theorem zAM.of {F Lc mc ms : Nat} {av : List Value} {σ : zS} {Q : Option Value → zS → Prop} (hpl : plainName y.1.cls = true) (hsl : (lg_sl av).length ≤ y.2.2.1)
    (h : zAW l y { frames := F, cells := mc, slots := ms, locals := Lc } 0 (lv_args 0 av) [] σ 0 0 Q) (hn : y.1 ∉ zTHR := by decide +kernel) (hh : zHH y.1 = [] := by decide +kernel) : zAM l y F Lc mc ms av σ Q := by
  intro D dt b b0
  refine Met.ofW (cc := y.2.1) (maxL := y.2.2.1) (ret := y.2.2.2.1) hpl rfl ?_
  intro p e s m args below meth c s₁ B hml hv
  obtain ⟨rfl, hR, hKK, hb0⟩ := hv
  have hts := atoms_spec (ws := zW y) B.pre
  have htab : c.exceptionTable.toList = [] := by
    obtain ⟨meth9, c9, h1, h2, -, -, -, -, h7, -⟩ := Cond.code_spec B.named (hts _ List.mem_cons_self)
    cases Option.some.inj (h1.symm.trans B.method)
    cases Option.some.inj (h2.symm.trans (Stand.of_body B).code)
    rw [Array.isEmpty_iff.mp h7]
  have hC : zCtx y p s m (av.map (zv (zg b b0))).toArray meth c := ⟨B.exec, B.bytes, B.returns, hml, findClass_of_methodNamed B.named, fun w hw => hts w (List.mem_cons_of_mem _ hw), B.notSynchronized, fun hn => (name_of_methodNamed B.named B.method).1.trans hn, fun h => absurd hh h⟩
  have hlen : ∀ vs : List Value, (lg_sl (vs.map (zv (zg b b0)))).length = (lg_sl vs).length := by
    intro vs
    induction vs with
    | nil => rfl
    | cons v r ih => cases v <;> simp_all [lg_sl, zv, Value.category]
  have hl := lv_entry (av.map (zv (zg b b0))) (n := y.2.2.1) (by rw [hlen]; exact hsl)
  rw [lg_entry_eq]
  generalize (lg_sl (av.map (zv (zg b b0))) ++ List.replicate (y.2.2.1 - (lg_sl (av.map (zv (zg b b0)))).length) Slot.unset).toArray = ls at hl ⊢
  have hH : zHas ls y.2.2.1 (zg b b0) (lv_args 0 av) := ⟨hl.1, hl.2.1, fun i v hv => by
    have h1 := zlk_mem hv
    refine hl.2.2 (i, zv (zg b b0) v) ?_
    rw [lv_args_map]
    exact List.mem_map_of_mem (f := fun q => (q.1, zv (zg b b0) q.2)) h1⟩
  refine h p e s m _ below meth c D dt b b0 s.heap [] ls _ hC hKK hR hb0 va_S.rf hH ⟨Nat.zero_le _, Nat.zero_le _⟩ ?_
  intro v σ' pc' st' H' locs' uc' us' ls' hret hq hR' hS' hu'
  refine W.widen (k := mc) (n := ms) hu'.1 hu'.2 ?_
  have hlocks := hC.2.2.2.2.2.2.1
  have hQ : ∀ (w : Option Value), w = v.map (zv (zg b b0)) → ∀ t : State, t.heap = H' → s.WarmedH t.vm → ((∃ v σ', Outcome.returned w = .returned (v.map (zv (zg b b0))) ∧ Q v σ' ∧ zRep D dt b b0 σ' t t.heap ∧ zKK D dt t) ∧ va_F (fun q => b0 < q) s t) := by
    intro w hw t ht hW
    exact ⟨⟨v, σ', by rw [hw], hq, by rw [ht]; exact hR'.moved hW.alike, hKK.moved hW⟩, hS'.F ht⟩
  rcases hret with (⟨rfl, rfl, hr, hd⟩ | ⟨x, ty, rfl, rfl, hr, hn, hd⟩ | ⟨w, ty, rfl, rfl, hw, hr, hty, hd⟩ | ⟨x, rfl, rfl, hr, hd⟩ | ⟨x, rfl, rfl, hr, hd⟩) | ⟨k, -, -, -, ht, -⟩
  · exact W.vret hC.1 hC.2.1 (hC.2.2.1.trans hr) (hQ none rfl) hS'.2.2 hd
  · exact W.zret (v := x) hC.1 hC.2.1 (hC.2.2.1.trans hr) hn (hQ (some (.int x)) rfl) hS'.2.2 hd
  · exact W.aret (v := zv (zg b b0) w) hC.1 hC.2.1 (hC.2.2.1.trans hr) hty (by rcases hw with rfl | ⟨a, rfl⟩; exact Or.inl rfl; exact Or.inr ⟨_, rfl⟩) (hQ (some (zv (zg b b0) w)) rfl) hS'.2.2 hd
  · exact W.lret (v := x) hC.1 hC.2.1 (hC.2.2.1.trans hr) (hQ (some (.long x)) rfl) hS'.2.2 hd
  · exact W.dret (v := x) hC.1 hC.2.1 (hC.2.2.1.trans hr) (hQ (some (.double x)) rfl) hS'.2.2 hd
  · exact absurd ht.1 hn
end ZMet
theorem zgood {y : zM} (h : zOK y) : GoodIn zT (zW y) := fun w hw => by
  rcases List.mem_cons.mp hw with e | e
  · subst e
    exact zT_good _ h.1.1
  · exact zT_good _ e
section ZC0
variable {p : Program} {l : Launch} {e : Env} {R : Room} {s : State} {m : MethodId} {args : Array Value} {below : List Frame} {meth : Method} {c : Code} {H : Heap} {locs : List Loc} {cells slots : Nat} {Q : State → Prop}
theorem zz_go {pc mc ms : Nat} {ls : Array Slot} {rest st0 : List Value} {A0 free : Nat → Prop} {Qa : State → Outcome → State → Prop} (hr : va_Run p l e R s m args below meth c H locs cells slots mc ms (F0 m pc ls st0) rest Qa free) (hS : va_S A0 s.heap H locs) (hf : ∀ q, free q → A0 q) (hF : ∀ st o t, Qa st o t → va_F A0 st t)
    (kk : ∀ (v : Option Value) (st₀ t : State) (H1 : Heap) (locs1 : List Loc), t.heap = H1 → t.vm.Alike s.vm → Qa st₀ (.returned v) t → va_S A0 s.heap H1 locs1 → W p l e R s m args below meth c H1 locs1 (cells + mc) (slots + ms) Q (F0 m (pc + 3) ls (v.toList ++ rest))) : W p l e R s m args below meth c H locs cells slots Q (F0 m pc ls st0) := by
  intro T hT X
  obtain ⟨v, st₀, t, T', L, h0, X', hL, e1, e2, hq, st⟩ := hr T hT X
  obtain ⟨hz, hk⟩ := hF _ _ _ hq
  rw [h0] at hz hk
  obtain ⟨t2, a1, b1⟩ := kk v st₀ t T'.heap (locs ++ L) e1.symm (by rw [← e2]; exact X'.warmed.alike.symm) hq
    ⟨Nat.le_trans hS.1 (by rw [e1]; exact hz), fun q h1 h2 => by rw [e1, hk q (Nat.lt_of_lt_of_le h1 hS.1) h2]; exact hS.2.1 q h1 h2, fun q hq => by
      rcases List.mem_append.mp hq with h | h
      · exact hS.2.2 q h
      · exact hf _ (hL q h)⟩ T' rfl X'
  exact ⟨t2, st t2 a1, b1⟩
end ZC0
theorem zPc_blind {D : va_G} {dt : Nat → ClassId} {b b0 : Nat} {σ : zS} {vs : List Value} : FrameBlind (va_Pc vs (fun U => zRep D dt b b0 σ U U.heap ∧ zKK D dt U ∧ b0 + 1 ≤ U.heap.size)) := by
  intro a U g mk ⟨h1, h2, h3, h4⟩
  exact ⟨h1, zRep.moved (u := U) (U := U.calling g mk a) (Vm.Alike.refl U.vm) h2, h3.calling, h4⟩
section ZCall
variable {l : Launch} {y : zM} {R : Room} {pc : Nat} {lc : List (Nat × Value)} {st st0 : List Value} {σ : zS} {uc us : Nat} {Q : Option Value → zS → Prop}
theorem zv_stack {g : Nat → Nat} {v : Option Value} {st : List Value} : (v.map (zv g)).toList ++ st.map (zv g) = (v.toList ++ st).map (zv g) := by
  cases v <;> simp
theorem zcat {g : Nat → Nat} {st : List Value} : ((st.map (zv g)).map fun v => v.category) = st.map fun v => v.category := by
  simp [Function.comp_def, zv_cat]
theorem zw_callV {ix a ci F Lc mc ms : Nat} {y' : zM} {av : List Value} {Q' : Option Value → zS → Prop} (hd : decode y.2.1 pc = .ok (.invokevirtual ix, 3)) (hlk : zLK y.1.cls ix y'.1) (hy : zVI y') (hk : zK σ a = ci) (hci : ci < 100) (hcl : (zcl ci).1 = y'.1.cls) (hM : zAM l y' F Lc mc ms (.ref a :: av) σ Q') (hn : av.length = y'.2.2.2.2) (hst : st0 = av.reverse ++ .ref a :: st) (hcat : (st.map fun v => v.category).sum ≤ 8) (hrm : F + 1 ≤ R.frames ∧ 8 + (y'.2.2.1 + 11) + Lc ≤ R.locals) (hc : uc + mc ≤ R.cells ∧ us + ms ≤ R.slots)
    (kk : ∀ v σ', Q' v σ' → zAW l y R (pc + 3) lc (v.toList ++ st) σ' (uc + mc) (us + ms) Q) : zAW l y R pc lc st0 σ uc us Q := by
  intro p e s m args below meth c D dt b b0 H locs ls Qs hC hKK hR hb hS hl hu hF
  obtain ⟨h0, h1, h2, h3, cellB, g1, g2, g3, -⟩ := hR.obj hk hci
  have hts := hC.2.2.2.2.2.1
  have hfc : s.vm.findClass y'.1.cls = some cellB.cls := by
    rw [g2, ← hcl]
    exact (hKK.1.1 ci _ (zCl_all ci h3).1).2.1
  have hpre : PreV s H y'.1.cls (zg b b0 a) (va_Pc ((Value.ref a :: av).map (zv (zg b b0))) (fun U => zRep D dt b b0 σ U U.heap ∧ zKK D dt U ∧ b0 + 1 ≤ U.heap.size)) (av.map (zv (zg b b0))) :=
    ⟨zPc_blind, ⟨cellB, g1, by rw [g3]; rfl, hfc⟩, fun U hU hW => ⟨rfl, by rw [hU]; exact hR.moved hW.alike, hKK.moved hW, by rw [hU]; exact Nat.le_trans hb hS.1⟩⟩
  have hstk : (F0 m pc ls (st0.map (zv (zg b b0)))).stack = (av.map (zv (zg b b0))).reverse ++ .ref (zg b b0 a) :: st.map (zv (zg b b0)) := by
    rw [hst]
    simp [List.map_append, List.map_reverse, zv]
  have hroom := lv_room (m := m) (pc := pc) (ls := ls) (rest := st0.map (zv (zg b b0))) (st := st.map (zv (zg b b0))) (by rw [zcat]; exact hcat)
  have hfix : CallFix p m c y.2.1 y.2.2.1 s args zT y.1.cls := ⟨hC.1, hC.2.1, hC.2.2.2.1, hC.2.2.2.2.1, hts⟩
  have hgo : ∀ (hr : va_Run p l e R s m args below meth c H locs uc us mc ms (F0 m pc ls (st0.map (zv (zg b b0)))) (st.map (zv (zg b b0))) (fun st o t => (∃ v σ', o = .returned (v.map (zv (zg b b0))) ∧ Q' v σ' ∧ zRep D dt b b0 σ' t t.heap ∧ zKK D dt t) ∧ va_F (fun q => b0 < q) st t) (fun q => b0 < q)), W p l e R s m args below meth c H locs uc us Qs (F0 m pc ls (st0.map (zv (zg b b0)))) := by
    intro hr
    refine zz_go hr hS (fun q h => h) (fun _ _ _ h => h.2) (fun v0 st₀ t H1 locs1 ht hvm hq hS1 => ?_)
    obtain ⟨⟨v, σ', e1, e2, e3, e4⟩, -⟩ := hq
    cases e1
    rw [zv_stack]
    rw [ht] at e3
    exact kk v σ' e2 p e s m args below meth c D dt b b0 H1 locs1 ls Qs hC hKK (e3.moved hvm) hb hS1 hl hc hF
  rcases hlk with hlk | ⟨host, hlk⟩
  · exact hgo (va_runV (n := y'.2.2.2.2) (C := y'.1.cls) hfix (hM D dt b b0) ⟨callB_of (bytes := y'.2.1) (maxL := y'.2.2.1) (ret := y'.2.2.2.1) _ hts (zgood hy.1) rfl rfl rfl (hts _ hy.1.1.2) (hts _ hlk) hy.1.2 hrm, hts _ hy.2.1, hts _ hy.2.2⟩ hpre rfl (by rw [List.length_map]; exact hn) hl.1 hstk hroom hd hc)
  · exact hgo (va_runVN (n := y'.2.2.2.2) (C := y'.1.cls) hfix (hM D dt b b0) ⟨va_cnB (bytes := y'.2.1) (maxL := y'.2.2.1) (ret := y'.2.2.2.1) _ hts (zgood hy.1) rfl rfl rfl (hKK.2.2.1 _ hlk) (hts _ hy.1.1.2) hy.1.2 hrm, hts _ hy.2.1, hts _ hy.2.2⟩ hpre rfl (by rw [List.length_map]; exact hn) hl.1 hstk hroom hd hc)
theorem zw_callS {ix F Lc mc ms : Nat} {y' : zM} {av : List Value} {Q' : Option Value → zS → Prop} (hd : decode y.2.1 pc = .ok (.invokestatic ix, 3)) (hlk : zLK y.1.cls ix y'.1) (hy : zVS y') (hM : zAM l y' F Lc mc ms av σ Q') (hn : av.length = y'.2.2.2.2) (hst : st0 = av.reverse ++ st) (hcat : (st.map fun v => v.category).sum ≤ 8) (hrm : F + 1 ≤ R.frames ∧ 8 + (y'.2.2.1 + 11) + Lc ≤ R.locals) (hc : uc + mc ≤ R.cells ∧ us + ms ≤ R.slots)
    (kk : ∀ v σ', Q' v σ' → zAW l y R (pc + 3) lc (v.toList ++ st) σ' (uc + mc) (us + ms) Q) : zAW l y R pc lc st0 σ uc us Q := by
  intro p e s m args below meth c D dt b b0 H locs ls Qs hC hKK hR hb hS hl hu hF
  have hts := hC.2.2.2.2.2.1
  have hpre : PreS s H (va_Pc (av.map (zv (zg b b0))) (fun U => zRep D dt b b0 σ U U.heap ∧ zKK D dt U ∧ b0 + 1 ≤ U.heap.size)) (av.map (zv (zg b b0))) :=
    ⟨zPc_blind, fun U hU hW => ⟨rfl, by rw [hU]; exact hR.moved hW.alike, hKK.moved hW, by rw [hU]; exact Nat.le_trans hb hS.1⟩⟩
  have hstk : (F0 m pc ls (st0.map (zv (zg b b0)))).stack = (av.map (zv (zg b b0))).reverse ++ st.map (zv (zg b b0)) := by
    rw [hst]
    simp [List.map_append, List.map_reverse]
  have hroom := lv_room (m := m) (pc := pc) (ls := ls) (rest := st0.map (zv (zg b b0))) (st := st.map (zv (zg b b0))) (by rw [zcat]; exact hcat)
  have hfix : CallFix p m c y.2.1 y.2.2.1 s args zT y.1.cls := ⟨hC.1, hC.2.1, hC.2.2.2.1, hC.2.2.2.2.1, hts⟩
  have hgo : ∀ (hr : va_Run p l e R s m args below meth c H locs uc us mc ms (F0 m pc ls (st0.map (zv (zg b b0)))) (st.map (zv (zg b b0))) (fun st o t => (∃ v σ', o = .returned (v.map (zv (zg b b0))) ∧ Q' v σ' ∧ zRep D dt b b0 σ' t t.heap ∧ zKK D dt t) ∧ va_F (fun q => b0 < q) st t) (fun q => b0 < q)), W p l e R s m args below meth c H locs uc us Qs (F0 m pc ls (st0.map (zv (zg b b0)))) := by
    intro hr
    refine zz_go hr hS (fun q h => h) (fun _ _ _ h => h.2) (fun v0 st₀ t H1 locs1 ht hvm hq hS1 => ?_)
    obtain ⟨⟨v, σ', e1, e2, e3, e4⟩, -⟩ := hq
    cases e1
    rw [zv_stack]
    rw [ht] at e3
    exact kk v σ' e2 p e s m args below meth c D dt b b0 H1 locs1 ls Qs hC hKK (e3.moved hvm) hb hS1 hl hc hF
  rcases hlk with hlk | ⟨host, hlk⟩
  · exact hgo (va_runS (n := y'.2.2.2.2) hfix (hM D dt b b0) ⟨callB_of (bytes := y'.2.1) (maxL := y'.2.2.1) (ret := y'.2.2.2.1) _ hts (zgood hy.1) rfl rfl rfl (hts _ hy.1.1.2) (hts _ hlk) hy.1.2 hrm, hts _ hy.2⟩ hpre rfl (by rw [List.length_map]; exact hn) hl.1 hstk hroom hd hc)
  · exact hgo (va_runSN (n := y'.2.2.2.2) hfix (hM D dt b b0) ⟨va_cnB (bytes := y'.2.1) (maxL := y'.2.2.1) (ret := y'.2.2.2.1) _ hts (zgood hy.1) rfl rfl rfl (hKK.2.2.1 _ hlk) (hts _ hy.1.1.2) hy.1.2 hrm, hts _ hy.2, trivial⟩ hpre rfl (by rw [List.length_map]; exact hn) hl.1 hstk hroom hd hc)
theorem zw_callI {ix a F Lc mc ms : Nat} {y' : zM} {av : List Value} {Q' : Option Value → zS → Prop} (hd : decode y.2.1 pc = .ok (.invokespecial ix, 3)) (hlk : zLK y.1.cls ix y'.1) (hy : zVC y') (hM : zAM l y' F Lc mc ms (.ref a :: av) σ Q') (hn : av.length = y'.2.2.2.2) (hst : st0 = av.reverse ++ .ref a :: st) (hcat : (st.map fun v => v.category).sum ≤ 8) (hrm : F + 1 ≤ R.frames ∧ 8 + (y'.2.2.1 + 11) + Lc ≤ R.locals) (hc : uc + mc ≤ R.cells ∧ us + ms ≤ R.slots)
    (kk : ∀ v σ', Q' v σ' → zAW l y R (pc + 3) lc (v.toList ++ st) σ' (uc + mc) (us + ms) Q) : zAW l y R pc lc st0 σ uc us Q := by
  intro p e s m args below meth c D dt b b0 H locs ls Qs hC hKK hR hb hS hl hu hF
  have hts := hC.2.2.2.2.2.1
  have hpre : PreS s H (va_Pc ((Value.ref a :: av).map (zv (zg b b0))) (fun U => zRep D dt b b0 σ U U.heap ∧ zKK D dt U ∧ b0 + 1 ≤ U.heap.size)) (.ref (zg b b0 a) :: av.map (zv (zg b b0))) :=
    ⟨zPc_blind, fun U hU hW => ⟨rfl, by rw [hU]; exact hR.moved hW.alike, hKK.moved hW, by rw [hU]; exact Nat.le_trans hb hS.1⟩⟩
  have hstk : (F0 m pc ls (st0.map (zv (zg b b0)))).stack = (av.map (zv (zg b b0))).reverse ++ .ref (zg b b0 a) :: st.map (zv (zg b b0)) := by
    rw [hst]
    simp [List.map_append, List.map_reverse, zv]
  have hroom := lv_room (m := m) (pc := pc) (ls := ls) (rest := st0.map (zv (zg b b0))) (st := st.map (zv (zg b b0))) (by rw [zcat]; exact hcat)
  have hfix : CallFix p m c y.2.1 y.2.2.1 s args zT y.1.cls := ⟨hC.1, hC.2.1, hC.2.2.2.1, hC.2.2.2.2.1, hts⟩
  have hgo : ∀ (hr : va_Run p l e R s m args below meth c H locs uc us mc ms (F0 m pc ls (st0.map (zv (zg b b0)))) (st.map (zv (zg b b0))) (fun st o t => (∃ v σ', o = .returned (v.map (zv (zg b b0))) ∧ Q' v σ' ∧ zRep D dt b b0 σ' t t.heap ∧ zKK D dt t) ∧ va_F (fun q => b0 < q) st t) (fun q => b0 < q)), W p l e R s m args below meth c H locs uc us Qs (F0 m pc ls (st0.map (zv (zg b b0)))) := by
    intro hr
    refine zz_go hr hS (fun q h => h) (fun _ _ _ h => h.2) (fun v0 st₀ t H1 locs1 ht hvm hq hS1 => ?_)
    obtain ⟨⟨v, σ', e1, e2, e3, e4⟩, -⟩ := hq
    cases e1
    rw [zv_stack]
    rw [ht] at e3
    exact kk v σ' e2 p e s m args below meth c D dt b b0 H1 locs1 ls Qs hC hKK (e3.moved hvm) hb hS1 hl hc hF
  have hw : zW y' = Cond.code y'.1 y'.2.1 y'.2.2.1 none :: zT := by unfold zW; rw [hy.2.2.2]
  rcases hlk with hlk | ⟨host, hlk⟩
  · exact hgo (va_runI (n := y'.2.2.2.2) hfix (hM D dt b b0) ⟨callB_of (bytes := y'.2.1) (maxL := y'.2.2.1) (ret := none) _ hts (zgood hy.1) hw rfl rfl (hts _ hy.1.1.2) (hts _ hlk) hy.1.2 hrm, hy.2.2.1, hts _ hy.2.1⟩ hpre rfl (by rw [List.length_map]; exact hn) hl.1 hstk hroom hd hc)
  · exact hgo (va_runIN (n := y'.2.2.2.2) hfix (hM D dt b b0) ⟨va_cnB (bytes := y'.2.1) (maxL := y'.2.2.1) (ret := none) _ hts (zgood hy.1) hw rfl rfl (hKK.2.2.1 _ hlk) (hts _ hy.1.1.2) hy.1.2 hrm, hy.2.2.1, hts _ hy.2.1⟩ hpre rfl (by rw [List.length_map]; exact hn) hl.1 hstk hroom hd hc)
theorem zw_objInit {ix a : Nat} (hd : decode y.2.1 pc = .ok (.invokespecial ix, 3)) (hlk : Cond.methodLink y.1.cls ix objectInit ∈ zT) (hrm : 1 ≤ R.frames ∧ (st.map fun v => v.category).sum + 12 ≤ R.locals) (kk : zAW l y R (pc + 3) lc st σ uc us Q) : zAW l y R pc lc (.ref a :: st) σ uc us Q := by
  intro p e s m args below meth c D dt b b0 H locs ls Qs hC hKK hR hb hS hl hu hF
  have hts := hC.2.2.2.2.2.1
  refine W.objInit hC.1 hC.2.1 hC.2.2.2.2.1 (hts _ hlk) (hts _ zo_inst) (hts _ zo_code) rfl (by rw [hC.2.2.2.1]; exact hl.1) rfl hd hrm.1 ?_ (kk p e s m args below meth c D dt b b0 H locs ls Qs hC hKK hR hb hS hl hu hF)
  show 2 * 0 + (((st.map (zv (zg b b0))).map fun v => v.category).sum) + 12 ≤ R.locals
  rw [zcat]
  omega
end ZCall
end
section
/-! more rows: short forms, Math.min, arraycopy, arrays of objects -/
theorem zin_of {i : Int32} {m n : Nat} (hl : m = n) (h : vp_in i n) : vp_in i m := by rw [hl]; exact h
theorem znarR {c k : Nat} (h : zir c k = true) : ∀ v : Value, (v = .null ∨ ∃ q, v = .ref q) → narrow (zFT c k) v = v ∧ fits (zFT c k) v = true := by
  intro v hv
  unfold zir at h
  cases e : zFT c k with
  | object n => rcases hv with rfl | ⟨q, rfl⟩ <;> exact ⟨rfl, rfl⟩
  | array t => rcases hv with rfl | ⟨q, rfl⟩ <;> exact ⟨rfl, rfl⟩
  | _ => rw [e] at h; exact absurd h (by decide)
section ZM
variable {l : Launch} {y : zM} {R : Room} {pc : Nat} {lc : List (Nat × Value)} {st : List Value} {σ : zS} {uc us : Nat} {Q : Option Value → zS → Prop}
theorem zw_putO {ix c k a o : Nat} (hd : decode y.2.1 pc = .ok (.putfield ix, 3)) (hf : zFL y.1.cls ix c k) (hi : zir c k = true) (hfin : ((zcl c).2.1 k).2.2.2 = false ∨ (y.1.name = "<init>" ∧ ((zcl c).2.1 k).2.2.2 = true ∧ ((zcl c).2.1 k).1 = y.1.cls ∧ (∀ z ∈ zNF, ¬ (z.1 = y.1.cls ∧ z.2.1 = ix)))) (hk : zK σ a = c) (hc : c < 100) (kk : zAW l y R (pc + 3) lc st (zsG σ c k a (some o)) uc us Q) : zAW l y R pc lc (.ref o :: .ref a :: st) σ uc us Q := zw_putR (r := some o) hd hf hi hfin (znarR hi) hk hc kk
theorem zw_putN {ix c k a : Nat} (hd : decode y.2.1 pc = .ok (.putfield ix, 3)) (hf : zFL y.1.cls ix c k) (hi : zir c k = true) (hfin : ((zcl c).2.1 k).2.2.2 = false ∨ (y.1.name = "<init>" ∧ ((zcl c).2.1 k).2.2.2 = true ∧ ((zcl c).2.1 k).1 = y.1.cls ∧ (∀ z ∈ zNF, ¬ (z.1 = y.1.cls ∧ z.2.1 = ix)))) (hk : zK σ a = c) (hc : c < 100) (kk : zAW l y R (pc + 3) lc st (zsG σ c k a none) uc us Q) : zAW l y R pc lc (.null :: .ref a :: st) σ uc us Q := zw_putR (r := none) hd hf hi hfin (znarR hi) hk hc kk
theorem zw_putIF {ix c k a : Nat} {x : Int32} (hd : decode y.2.1 pc = .ok (.putfield ix, 3)) (hf : zFL y.1.cls ix c k) (hi : zir c k = false) (hfin : y.1.name = "<init>" ∧ ((zcl c).2.1 k).2.2.2 = true ∧ ((zcl c).2.1 k).1 = y.1.cls ∧ (∀ z ∈ zNF, ¬ (z.1 = y.1.cls ∧ z.2.1 = ix))) (hn : narrow (zFT c k) (.int x) = .int x ∧ fits (zFT c k) (.int x) = true) (hk : zK σ a = c) (hc : c < 100) (kk : zAW l y R (pc + 3) lc st (zsF σ c k a x) uc us Q) : zAW l y R pc lc (.int x :: .ref a :: st) σ uc us Q := by
  intro p e s m args below meth cd D dt b b0 H locs ls Qs hC hKK hR hb hS hl hu hF
  obtain ⟨h0, h1, h2, h3, h4⟩ := hR.obj hk hc
  rw [h2] at h4
  show W p l e R s m args below meth cd H locs uc us Qs (F0 m pc ls (.int x :: .ref (zg b b0 a) :: st.map (zv (zg b b0))))
  rw [h2]
  refine zz_putF hC.1 hC.2.1 hC.2.2.2.2.2.1 hC.2.2.2.2.1 hKK.1 hf hfin.2.2.2 h4 hfin.2.1 hfin.2.2.1 (hC.2.2.2.2.2.2.2.1 hfin.1) hn.1 hn.2 hd (fun H1 k1 g1 g2 g3 => ?_)
  refine kk p e s m args below meth cd D dt b b0 H1 _ ls Qs hC hKK (hR.set h0 h1 g2 g3 (zWF_sF hR.1 c k a x) rfl ?_ (fun _ _ => rfl) (fun _ _ => rfl) (fun z hz c' k' => ?_) (fun _ _ _ _ => rfl) (fun _ _ => rfl) (fun _ _ => rfl) (fun _ _ => rfl)) hb (hS.put g2 g3 (by show b0 < b0 + a; omega)) hl hu hF
  · unfold zAt
    rw [show zK (zsF σ c k a x) a = c from hk, if_pos hc]
    refine ⟨h3, g1.to (fun j _ => ?_)⟩
    by_cases e : j = k
    · subst e
      simp [updV, zfv, zF_zsF, hi, zv]
    · simp [updV, zfv, zF_zsF, zG_zsF, e]
  · rw [zF_zsF, if_neg (fun q => hz q.2.2)]
/-- new int[N] -/
theorem zw_newI {n : Int32} {N : Nat} (hd : decode y.2.1 pc = .ok (.newarray .int, 2)) (hn : n = nI N) (hN : N ≤ 134217728) (hrm : uc + 1 ≤ R.cells ∧ us + N ≤ R.slots) (kk : zAW l y R (pc + 2) lc (.ref (zn σ) :: st) (znA1 σ 0 N) (uc + 1) (us + N) Q) : zAW l y R pc lc (.int n :: st) σ uc us Q := by
  subst hn
  have e : (nI N).toNatClampNeg = N := nI_clamp (by omega)
  refine zw_newarray (t := 0) hd (by decide) (by decide) rfl zaw_0 (fun _ _ => rfl) (nI_pos (by omega)) ?_ ?_ ?_
  · rw [e]
    show N * 4 ≤ 536870912
    omega
  · rw [e]; exact hrm
  · rw [e]; exact kk
theorem zw_newZ {n : Int32} {N : Nat} (hd : decode y.2.1 pc = .ok (.newarray .boolean, 2)) (hn : n = nI N) (hN : N ≤ 134217728) (hrm : uc + 1 ≤ R.cells ∧ us + N ≤ R.slots) (kk : zAW l y R (pc + 2) lc (.ref (zn σ) :: st) (znA1 σ 1 N) (uc + 1) (us + N) Q) : zAW l y R pc lc (.int n :: st) σ uc us Q := by
  subst hn
  have e : (nI N).toNatClampNeg = N := nI_clamp (by omega)
  refine zw_newarray (t := 1) hd (by decide) (by decide) rfl zaw_1 (fun _ _ => rfl) (nI_pos (by omega)) ?_ ?_ ?_
  · rw [e]
    show N * 1 ≤ 536870912
    omega
  · rw [e]; exact hrm
  · rw [e]; exact kk
/-- new C[N] -/
theorem zw_newO {ix t N : Nat} {n : Int32} {C : String} (hd : decode y.2.1 pc = .ok (.anewarray ix, 3)) (hlk : Cond.classLink y.1.cls ix C ∈ zT) (ht : t < znA) (ht2 : t < 800) (hz : zAT t = .object C) (hn : n = nI N) (hN : N ≤ 134217728) (hrm : uc + 1 ≤ R.cells ∧ us + N ≤ R.slots) (kk : zAW l y R (pc + 3) lc (.ref (zn σ) :: st) (znA1 σ t N) (uc + 1) (us + N) Q) : zAW l y R pc lc (.int n :: st) σ uc us Q := by
  subst hn
  have e : (nI N).toNatClampNeg = N := nI_clamp (by omega)
  intro p e0 s m args below meth c D dt b b0 H locs ls Qs hC hKK hR hb hS hl hu hF
  have hts := hC.2.2.2.2.2.1
  have hg : b0 + zn σ = zg b b0 (zn σ) := (zg_pos hR.1.1).symm
  have hov := hKK.2.2.2.1 t ht
  rw [hz] at hov
  have hz2 : zak t = 2 := by unfold zak; rw [hz]; rfl
  have hra := (hKK.arr ht).2
  rw [hz] at hra
  obtain ⟨_, _, _, _, _, hnm⟩ := hra
  refine W.anew hC.1 hC.2.1 hC.2.2.2.2.1 (hts _ hlk) (va_AO.use hov) rfl hd rfl (nI_pos (by omega)) (by rw [e]; omega) hrm.1 (by rw [e]; exact hrm.2) fun cA kA comp f1 f2 f3 f4 => ?_
  have hcA : cA = dt t := Option.some.inj (f1.symm.trans hnm)
  subst hcA
  generalize hH1 : H.push ({ cls := dt t, slots := Array.replicate (nI N).toNatClampNeg .null, vm := .none } : Cell) = H1
  have z1 : H1.size = H.size + 1 := by rw [← hH1, Array.size_push]
  have e1 : H1[H.size]? = some (arrV (dt t) N (fun _ => .null)) := by rw [← hH1, Array.getElem?_push_size, e, ← arrV_new]
  have o1 : ∀ q : Nat, q < H.size → H1[q]? = H[q]? := fun q hq => by rw [← hH1, Array.getElem?_push, if_neg (Nat.ne_of_lt hq)]
  have hk := kk p e0 s m args below meth c D dt b b0 H1 locs ls Qs hC hKK (hR.push z1 o1 (zWF_A1 hR.1 t _) rfl ?_ (fun x hx => ?_) (fun x hx => ?_) (fun _ _ _ _ => rfl) (fun _ _ _ _ => rfl) (fun x hx => funext fun j => ?_) (fun x hx => funext fun j => ?_) (fun x hx => funext fun j => ?_)) hb (zS.grow hS (by omega) o1) hl hrm hF
  · rw [show H.size = zg b b0 (zn σ) from hR.2.1.trans hg, e]
    exact hk
  · unfold zAt
    have hK2 : zK (znA1 σ t N) (zn σ) = 100 + t := by rw [zK_znA1, if_pos rfl]
    rw [hK2, if_neg (by omega), show 100 + t - 100 = t by omega]
    refine ⟨by omega, ?_⟩
    rw [zpay_r (σ := znA1 σ t N) (t := t) hK2 hz2, vp_cell_q, ← hR.2.1, e1, zL_znA1, if_pos rfl]
    congr 2
    funext j
    rw [zR_znA1, if_pos rfl]
    rfl
  · rw [zK_znA1, if_neg hx]
  · rw [zL_znA1, if_neg hx]
  · rw [zI_znA1, if_neg hx]
  · rw [zR_znA1, if_neg hx]
  · rw [zJ_znA1, if_neg hx]
theorem zw_min {ix : Nat} {x z : Int32} (hd : decode y.2.1 pc = .ok (.invokestatic ix, 3)) (hlk : Cond.methodLink y.1.cls ix Lib.Math.min.name ∈ zT) (hrm : 1 ≤ R.frames ∧ (st.map fun v => v.category).sum + 13 ≤ R.locals) (kk : zAW l y R (pc + 3) lc (.int (if z < x then z else x) :: st) σ uc us Q) : zAW l y R pc lc (.int z :: .int x :: st) σ uc us Q := by
  intro p e s m args below meth c D dt b b0 H locs ls Qs hC hKK hR hb hS hl hu hF
  have hts := hC.2.2.2.2.2.1
  exact va_mmin hC.1 hC.2.1 (by rw [hC.2.2.2.1]; exact hl.1.symm) hC.2.2.2.2.1 (hts _ hlk) (hts _ zmin_static) (hts _ zmin_init) (hts _ zmin_code) hrm.1 (by rw [zcat]; exact hrm.2) hu.1 hu.2 hd (kk p e s m args below meth c D dt b b0 H locs ls Qs hC hKK hR hb hS hl hu hF)
theorem nnI {z : Int32} (hz : ¬ z < 0) : z.toInt = (z.toNatClampNeg : Int) := by
  have hz0 : (0 : Int) ≤ z.toInt := by
    have := Int32.not_lt.mp hz
    simpa using Int32.le_iff_toInt_le.mp this
  show z.toInt = ((z.toInt.toNat : Nat) : Int)
  omega
theorem zw_copyI {ix a0 a : Nat} {sp dp n : Int32} (hd : decode y.2.1 pc = .ok (.invokestatic ix, 3)) (hlk : Cond.methodLink y.1.cls ix arraycopyName ∈ zT) (hk0 : zK σ a0 = 100) (hk1 : zK σ a = 100) (p0 : 0 < a0) (p1 : 0 < a) (h1 : ¬ sp < 0) (h2 : ¬ dp < 0) (h3 : ¬ n < 0) (h4 : sp.toNatClampNeg + n.toNatClampNeg ≤ zL σ a0) (h5 : dp.toNatClampNeg + n.toNatClampNeg ≤ zL σ a) (hrm : 1 ≤ R.frames ∧ (st.map fun v => v.category).sum + (nativeFrameWords "java/lang/System" "arraycopy" 5 + 11) ≤ R.locals)
    (kk : zAW l y R (pc + 3) lc st (zsW σ a (va_cpy (zI σ a0) (zI σ a) sp.toNatClampNeg dp.toNatClampNeg n.toNatClampNeg)) uc us Q) : zAW l y R pc lc (.int n :: .int dp :: .ref a :: .int sp :: .ref a0 :: st) σ uc us Q := by
  intro p e s m args below meth c D dt b b0 H locs ls Qs hC hKK hR hb hS hl hu hF
  have hts := hC.2.2.2.2.2.1
  obtain ⟨w1, w2, w3, w4⟩ := hR.arr (t := 0) hk0 p0 (by decide)
  obtain ⟨v1, v2, v3, v4⟩ := hR.arr (t := 0) hk1 p1 (by decide)
  rw [zpay_i (t := 0) hk0 (by decide)] at w4
  rw [zpay_i (t := 0) hk1 (by decide)] at v4
  have hA := (hKK.arr v3).1
  intro T hT X
  obtain ⟨-, k0, hkk0, cm0, hkk1⟩ := hA (zL σ a0) (fun j => .int (zI σ a0 j))
  obtain ⟨vm', X', step⟩ := X.arraycopy hC.1 hC.2.2.2.2.1 (hts _ hlk) (hts _ zac_native) (hts _ zac_static) (hts _ zac_init) (src := zg b b0 a0) (dst := zg b b0 a) (cs := vp_cell (dt 0) (zL σ a0, .inl (zI σ a0))) (cd := vp_cell (dt 0) (zL σ a, .inl (zI σ a))) (srcPos := sp) (destPos := dp) (n := n) (by rw [hT]; exact w4) (by rw [hT]; exact v4)
    (fun _ h => by cases h) (fun _ h => by cases h) (fun h => by cases h) (fun h => by cases h) hkk0 hkk0 hkk1 hkk1 (by simp [zAT, refKind]) h1 h2 h3
    (by rw [nnI h1, nnI h3]; show ¬ _ > ((arrV (dt 0) (zL σ a0) (fun j => .int (zI σ a0 j))).slots.size : Int); rw [arrV_size]; omega)
    (by rw [nnI h2, nnI h3]; show ¬ _ > ((arrV (dt 0) (zL σ a) (fun j => .int (zI σ a j))).slots.size : Int); rw [arrV_size]; omega)
    (fun vm₁ _ i hi => by
      have e : (vp_cell (dt 0) (zL σ a0, .inl (zI σ a0))).slots.getD (sp.toNatClampNeg + i) .null = .int (zI σ a0 (sp.toNatClampNeg + i)) := by
        show (arrV (dt 0) (zL σ a0) (fun j => .int (zI σ a0 j))).slots.getD _ _ = _
        rw [Array.getD_eq_getD_getElem?, arrV_read _ _ (by omega)]
        rfl
      refine ⟨?_, ?_⟩
      · rw [e]
        rfl
      · rw [e]
        exact trivial)
    (g := F0 m pc ls (.int n :: .int dp :: .ref (zg b b0 a) :: .int sp :: .ref (zg b b0 a0) :: st.map (zv (zg b b0)))) rfl (by rw [hC.2.2.2.1]; exact hl.1) (rest := st.map (zv (zg b b0))) rfl (by rw [hC.2.1]; exact hd) hrm.1 (by show 2 * 0 + _ + _ ≤ _; rw [zcat]; omega)
  have e1 : copied (vp_cell (dt 0) (zL σ a0, .inl (zI σ a0))) (vp_cell (dt 0) (zL σ a, .inl (zI σ a))) sp dp n = vp_cell (dt 0) (zL σ a, .inl (va_cpy (zI σ a0) (zI σ a) sp.toNatClampNeg dp.toNatClampNeg n.toNatClampNeg)) := va_copied (fun z => .int z) (dt 0) (dt 0) (zI σ a0) (zI σ a) h4
  rw [e1] at X' step
  rw [v2] at v4 X' step
  have hla : b0 + a < H.size := by rw [hR.2.1]; omega
  generalize hH1 : H.setIfInBounds (b0 + a) (vp_cell (dt 0) (zL σ a, .inl (va_cpy (zI σ a0) (zI σ a) sp.toNatClampNeg dp.toNatClampNeg n.toNatClampNeg))) = H1
  have hheap : ((T.setVm vm').setCell (b0 + a) (vp_cell (dt 0) (zL σ a, .inl (va_cpy (zI σ a0) (zI σ a) sp.toNatClampNeg dp.toNatClampNeg n.toNatClampNeg)))).heap = H1 := by rw [← hH1, ← hT]; rfl
  have oq : ∀ q : Nat, q ≠ b0 + a → H1[q]? = H[q]? := fun q hq => by rw [← hH1]; simp [Array.getElem?_setIfInBounds, Ne.symm hq]
  have eq : H1[b0 + a]? = some (vp_cell (dt 0) (zL σ a, .inl (va_cpy (zI σ a0) (zI σ a) sp.toNatClampNeg dp.toNatClampNeg n.toNatClampNeg))) := by rw [← hH1]; simp [Array.getElem?_setIfInBounds, hla]
  have z1 : H1.size = H.size := by rw [← hH1]; simp
  obtain ⟨t, a1, b1⟩ := kk p e s m args below meth c D dt b b0 H1 _ ls Qs hC hKK (hR.set p1 v1 z1 oq (zWF_sW hR.1 a _) rfl (by
      unfold zAt
      rw [show zK (zsW σ a (va_cpy (zI σ a0) (zI σ a) sp.toNatClampNeg dp.toNatClampNeg n.toNatClampNeg)) a = 100 from hk1, if_neg (by decide)]
      refine ⟨by decide, ?_⟩
      rw [zpay_i (σ := zsW σ a (va_cpy (zI σ a0) (zI σ a) sp.toNatClampNeg dp.toNatClampNeg n.toNatClampNeg)) (t := 0) hk1 (by decide), eq]
      congr 3
      congr 1
      funext j
      rw [zI_zsW, if_pos rfl]) (fun _ _ => rfl) (fun _ _ => rfl) (fun _ _ _ _ => rfl) (fun _ _ _ _ => rfl) (fun q hq => funext fun j => by rw [zI_zsW, if_neg hq]) (fun _ _ => rfl) (fun _ _ => rfl)) hb
    (⟨by rw [z1]; exact hS.1, fun q g1 g2 => by
      rw [oq q (fun e => g2 (by rw [e]; show b0 < b0 + a; omega))]
      exact hS.2.1 q g1 g2, fun q hq => by
      rcases List.mem_append.mp hq with h | h
      · exact hS.2.2 q h
      · obtain ⟨z, -, hz⟩ := List.mem_map.mp h
        rw [← hz]
        show b0 < b0 + a
        omega⟩) hl hu hF _ hheap X'
  refine ⟨t, ?_, b1⟩
  have h9 := step t a1
  rw [← v2] at h9
  exact h9
end ZM
end
section
/-! THE SHAPE of the checker's objects: FairChecker 1, Protocol 2 (3 to 7), StateSpace 8 (9 to 15, its row of steps anywhere), Facts 17 (18 to 20), Traps 21 (22 to 29) -/
def zb (p : Bool) : Int32 := if p = true then 1 else 0
def xKs : List (Nat × Nat) := [(1, 5), (2, 2), (3, 100), (4, 100), (5, 103), (6, 100), (7, 100), (8, 3), (9, 100), (10, 100), (11, 100), (12, 100), (13, 100), (14, 100), (15, 100), (17, 0), (18, 100), (19, 100), (20, 100), (21, 4), (22, 101), (23, 101), (24, 101), (25, 100), (26, 100), (27, 100), (28, 100), (29, 100)]
def xLs : List (Nat × Nat) := [(3, 5), (4, 5), (5, 80), (6, 4), (7, 4), (9, 400), (10, 400), (11, 400), (12, 400), (13, 400), (14, 401), (15, 1024), (18, 12), (19, 12), (20, 12), (22, 400), (23, 400), (24, 400), (25, 400), (26, 400), (27, 400), (28, 400), (29, 400)]
def xGs : List (Nat × Nat × Nat × Nat) := [(5, 0, 1, 2), (5, 1, 1, 8), (5, 2, 1, 17), (5, 3, 1, 21), (2, 0, 2, 3), (2, 1, 2, 4), (2, 2, 2, 5), (2, 3, 2, 6), (2, 4, 2, 7), (3, 0, 8, 9), (3, 1, 8, 10), (3, 2, 8, 11), (3, 3, 8, 12), (3, 4, 8, 13), (3, 5, 8, 14), (3, 6, 8, 15), (0, 0, 17, 18), (0, 1, 17, 19), (0, 2, 17, 20), (4, 0, 21, 22), (4, 1, 21, 23), (4, 2, 21, 24), (4, 3, 21, 25), (4, 4, 21, 26), (4, 5, 21, 27), (4, 6, 21, 28), (4, 7, 21, 29)]
def xSh (σ : zS) : Prop := (∀ q ∈ xKs, zK σ q.1 = q.2) ∧ (∀ q ∈ xLs, zL σ q.1 = q.2) ∧ (∀ q ∈ xGs, zG σ q.1 q.2.1 q.2.2.1 = some q.2.2.2)
theorem xk_1 {σ : zS} (h : xSh σ) : zK σ 1 = 5 := h.1 (1, 5) (by decide)
theorem xk_2 {σ : zS} (h : xSh σ) : zK σ 2 = 2 := h.1 (2, 2) (by decide)
theorem xk_3 {σ : zS} (h : xSh σ) : zK σ 3 = 100 := h.1 (3, 100) (by decide)
theorem xk_4 {σ : zS} (h : xSh σ) : zK σ 4 = 100 := h.1 (4, 100) (by decide)
theorem xk_5 {σ : zS} (h : xSh σ) : zK σ 5 = 103 := h.1 (5, 103) (by decide)
theorem xk_6 {σ : zS} (h : xSh σ) : zK σ 6 = 100 := h.1 (6, 100) (by decide)
theorem xk_7 {σ : zS} (h : xSh σ) : zK σ 7 = 100 := h.1 (7, 100) (by decide)
theorem xk_8 {σ : zS} (h : xSh σ) : zK σ 8 = 3 := h.1 (8, 3) (by decide)
theorem xk_9 {σ : zS} (h : xSh σ) : zK σ 9 = 100 := h.1 (9, 100) (by decide)
theorem xk_10 {σ : zS} (h : xSh σ) : zK σ 10 = 100 := h.1 (10, 100) (by decide)
theorem xk_11 {σ : zS} (h : xSh σ) : zK σ 11 = 100 := h.1 (11, 100) (by decide)
theorem xk_12 {σ : zS} (h : xSh σ) : zK σ 12 = 100 := h.1 (12, 100) (by decide)
theorem xk_13 {σ : zS} (h : xSh σ) : zK σ 13 = 100 := h.1 (13, 100) (by decide)
theorem xk_14 {σ : zS} (h : xSh σ) : zK σ 14 = 100 := h.1 (14, 100) (by decide)
theorem xk_15 {σ : zS} (h : xSh σ) : zK σ 15 = 100 := h.1 (15, 100) (by decide)
theorem xk_17 {σ : zS} (h : xSh σ) : zK σ 17 = 0 := h.1 (17, 0) (by decide)
theorem xk_18 {σ : zS} (h : xSh σ) : zK σ 18 = 100 := h.1 (18, 100) (by decide)
theorem xk_19 {σ : zS} (h : xSh σ) : zK σ 19 = 100 := h.1 (19, 100) (by decide)
theorem xk_20 {σ : zS} (h : xSh σ) : zK σ 20 = 100 := h.1 (20, 100) (by decide)
theorem xk_21 {σ : zS} (h : xSh σ) : zK σ 21 = 4 := h.1 (21, 4) (by decide)
theorem xk_22 {σ : zS} (h : xSh σ) : zK σ 22 = 101 := h.1 (22, 101) (by decide)
theorem xk_23 {σ : zS} (h : xSh σ) : zK σ 23 = 101 := h.1 (23, 101) (by decide)
theorem xk_24 {σ : zS} (h : xSh σ) : zK σ 24 = 101 := h.1 (24, 101) (by decide)
theorem xk_25 {σ : zS} (h : xSh σ) : zK σ 25 = 100 := h.1 (25, 100) (by decide)
theorem xk_26 {σ : zS} (h : xSh σ) : zK σ 26 = 100 := h.1 (26, 100) (by decide)
theorem xk_27 {σ : zS} (h : xSh σ) : zK σ 27 = 100 := h.1 (27, 100) (by decide)
theorem xk_28 {σ : zS} (h : xSh σ) : zK σ 28 = 100 := h.1 (28, 100) (by decide)
theorem xk_29 {σ : zS} (h : xSh σ) : zK σ 29 = 100 := h.1 (29, 100) (by decide)
theorem xl_3 {σ : zS} (h : xSh σ) : zL σ 3 = 5 := h.2.1 (3, 5) (by decide)
theorem xl_4 {σ : zS} (h : xSh σ) : zL σ 4 = 5 := h.2.1 (4, 5) (by decide)
theorem xl_5 {σ : zS} (h : xSh σ) : zL σ 5 = 80 := h.2.1 (5, 80) (by decide)
theorem xl_6 {σ : zS} (h : xSh σ) : zL σ 6 = 4 := h.2.1 (6, 4) (by decide)
theorem xl_7 {σ : zS} (h : xSh σ) : zL σ 7 = 4 := h.2.1 (7, 4) (by decide)
theorem xl_9 {σ : zS} (h : xSh σ) : zL σ 9 = 400 := h.2.1 (9, 400) (by decide)
theorem xl_10 {σ : zS} (h : xSh σ) : zL σ 10 = 400 := h.2.1 (10, 400) (by decide)
theorem xl_11 {σ : zS} (h : xSh σ) : zL σ 11 = 400 := h.2.1 (11, 400) (by decide)
theorem xl_12 {σ : zS} (h : xSh σ) : zL σ 12 = 400 := h.2.1 (12, 400) (by decide)
theorem xl_13 {σ : zS} (h : xSh σ) : zL σ 13 = 400 := h.2.1 (13, 400) (by decide)
theorem xl_14 {σ : zS} (h : xSh σ) : zL σ 14 = 401 := h.2.1 (14, 401) (by decide)
theorem xl_15 {σ : zS} (h : xSh σ) : zL σ 15 = 1024 := h.2.1 (15, 1024) (by decide)
theorem xl_18 {σ : zS} (h : xSh σ) : zL σ 18 = 12 := h.2.1 (18, 12) (by decide)
theorem xl_19 {σ : zS} (h : xSh σ) : zL σ 19 = 12 := h.2.1 (19, 12) (by decide)
theorem xl_20 {σ : zS} (h : xSh σ) : zL σ 20 = 12 := h.2.1 (20, 12) (by decide)
theorem xl_22 {σ : zS} (h : xSh σ) : zL σ 22 = 400 := h.2.1 (22, 400) (by decide)
theorem xl_23 {σ : zS} (h : xSh σ) : zL σ 23 = 400 := h.2.1 (23, 400) (by decide)
theorem xl_24 {σ : zS} (h : xSh σ) : zL σ 24 = 400 := h.2.1 (24, 400) (by decide)
theorem xl_25 {σ : zS} (h : xSh σ) : zL σ 25 = 400 := h.2.1 (25, 400) (by decide)
theorem xl_26 {σ : zS} (h : xSh σ) : zL σ 26 = 400 := h.2.1 (26, 400) (by decide)
theorem xl_27 {σ : zS} (h : xSh σ) : zL σ 27 = 400 := h.2.1 (27, 400) (by decide)
theorem xl_28 {σ : zS} (h : xSh σ) : zL σ 28 = 400 := h.2.1 (28, 400) (by decide)
theorem xl_29 {σ : zS} (h : xSh σ) : zL σ 29 = 400 := h.2.1 (29, 400) (by decide)
theorem xg_5_0 {σ : zS} (h : xSh σ) : zG σ 5 0 1 = some 2 := h.2.2 (5, 0, 1, 2) (by decide)
theorem xg_5_1 {σ : zS} (h : xSh σ) : zG σ 5 1 1 = some 8 := h.2.2 (5, 1, 1, 8) (by decide)
theorem xg_5_2 {σ : zS} (h : xSh σ) : zG σ 5 2 1 = some 17 := h.2.2 (5, 2, 1, 17) (by decide)
theorem xg_5_3 {σ : zS} (h : xSh σ) : zG σ 5 3 1 = some 21 := h.2.2 (5, 3, 1, 21) (by decide)
theorem xg_2_0 {σ : zS} (h : xSh σ) : zG σ 2 0 2 = some 3 := h.2.2 (2, 0, 2, 3) (by decide)
theorem xg_2_1 {σ : zS} (h : xSh σ) : zG σ 2 1 2 = some 4 := h.2.2 (2, 1, 2, 4) (by decide)
theorem xg_2_2 {σ : zS} (h : xSh σ) : zG σ 2 2 2 = some 5 := h.2.2 (2, 2, 2, 5) (by decide)
theorem xg_2_3 {σ : zS} (h : xSh σ) : zG σ 2 3 2 = some 6 := h.2.2 (2, 3, 2, 6) (by decide)
theorem xg_2_4 {σ : zS} (h : xSh σ) : zG σ 2 4 2 = some 7 := h.2.2 (2, 4, 2, 7) (by decide)
theorem xg_3_0 {σ : zS} (h : xSh σ) : zG σ 3 0 8 = some 9 := h.2.2 (3, 0, 8, 9) (by decide)
theorem xg_3_1 {σ : zS} (h : xSh σ) : zG σ 3 1 8 = some 10 := h.2.2 (3, 1, 8, 10) (by decide)
theorem xg_3_2 {σ : zS} (h : xSh σ) : zG σ 3 2 8 = some 11 := h.2.2 (3, 2, 8, 11) (by decide)
theorem xg_3_3 {σ : zS} (h : xSh σ) : zG σ 3 3 8 = some 12 := h.2.2 (3, 3, 8, 12) (by decide)
theorem xg_3_4 {σ : zS} (h : xSh σ) : zG σ 3 4 8 = some 13 := h.2.2 (3, 4, 8, 13) (by decide)
theorem xg_3_5 {σ : zS} (h : xSh σ) : zG σ 3 5 8 = some 14 := h.2.2 (3, 5, 8, 14) (by decide)
theorem xg_3_6 {σ : zS} (h : xSh σ) : zG σ 3 6 8 = some 15 := h.2.2 (3, 6, 8, 15) (by decide)
theorem xg_0_0 {σ : zS} (h : xSh σ) : zG σ 0 0 17 = some 18 := h.2.2 (0, 0, 17, 18) (by decide)
theorem xg_0_1 {σ : zS} (h : xSh σ) : zG σ 0 1 17 = some 19 := h.2.2 (0, 1, 17, 19) (by decide)
theorem xg_0_2 {σ : zS} (h : xSh σ) : zG σ 0 2 17 = some 20 := h.2.2 (0, 2, 17, 20) (by decide)
theorem xg_4_0 {σ : zS} (h : xSh σ) : zG σ 4 0 21 = some 22 := h.2.2 (4, 0, 21, 22) (by decide)
theorem xg_4_1 {σ : zS} (h : xSh σ) : zG σ 4 1 21 = some 23 := h.2.2 (4, 1, 21, 23) (by decide)
theorem xg_4_2 {σ : zS} (h : xSh σ) : zG σ 4 2 21 = some 24 := h.2.2 (4, 2, 21, 24) (by decide)
theorem xg_4_3 {σ : zS} (h : xSh σ) : zG σ 4 3 21 = some 25 := h.2.2 (4, 3, 21, 25) (by decide)
theorem xg_4_4 {σ : zS} (h : xSh σ) : zG σ 4 4 21 = some 26 := h.2.2 (4, 4, 21, 26) (by decide)
theorem xg_4_5 {σ : zS} (h : xSh σ) : zG σ 4 5 21 = some 27 := h.2.2 (4, 5, 21, 27) (by decide)
theorem xg_4_6 {σ : zS} (h : xSh σ) : zG σ 4 6 21 = some 28 := h.2.2 (4, 6, 21, 28) (by decide)
theorem xg_4_7 {σ : zS} (h : xSh σ) : zG σ 4 7 21 = some 29 := h.2.2 (4, 7, 21, 29) (by decide)
theorem xSh.mono {σ σ' : zS} (h : xSh σ) (hK : ∀ a, zK σ a ≠ 999 → zK σ' a = zK σ a) (hL : ∀ a, zK σ a ≠ 999 → zL σ' a = zL σ a) (hG : ∀ c k a, zK σ a ≠ 999 → ¬ (c = 3 ∧ k = 7) → zG σ' c k a = zG σ c k a) : xSh σ' := by
  have k0 : ∀ q ∈ xKs, q.2 ≠ 999 := by decide
  have k1 : ∀ q ∈ xLs, ∃ z ∈ xKs, z.1 = q.1 := by decide
  have k2 : ∀ q ∈ xGs, (∃ z ∈ xKs, z.1 = q.2.2.1) ∧ ¬ (q.1 = 3 ∧ q.2.1 = 7) := by decide
  have f : ∀ a, (∃ z ∈ xKs, z.1 = a) → zK σ a ≠ 999 := by
    rintro a ⟨z, hz, rfl⟩
    rw [h.1 z hz]
    exact k0 z hz
  refine ⟨fun q hq => ?_, fun q hq => ?_, fun q hq => ?_⟩
  · rw [hK _ (f _ ⟨q, hq, rfl⟩)]
    exact h.1 q hq
  · rw [hL _ (f _ (k1 q hq))]
    exact h.2.1 q hq
  · rw [hG _ _ _ (f _ (k2 q hq).1) (k2 q hq).2]
    exact h.2.2 q hq
/-- the row of steps lies at pk -/
def xPk (σ : zS) (pk : Nat) : Prop := zG σ 3 7 8 = some pk ∧ zK σ pk = 100 ∧ (pk = 16 ∨ 30 ≤ pk)
theorem xPk_pos {σ : zS} {pk : Nat} (h : xPk σ pk) : 0 < pk := by rcases h.2.2 with e | e <;> omega
/-- numbers of the checker's -/
def xP (σ : zS) : Int32 := zF σ 2 5 2
def xV (σ : zS) : Int32 := zF σ 2 6 2
def xS (σ : zS) : Int32 := zF σ 3 8 8
def xT (σ : zS) : Int32 := zF σ 3 9 8
end
section
/-! the checker's short methods -/
theorem zt_0 : (0 : Int32).toInt = 0 := rfl
theorem zt_1 : (1 : Int32).toInt = 1 := rfl
theorem zt_2 : (2 : Int32).toInt = 2 := rfl
theorem zt_3 : (3 : Int32).toInt = 3 := rfl
theorem zt_4 : (4 : Int32).toInt = 4 := rfl
theorem zt_5 : (5 : Int32).toInt = 5 := rfl
theorem zt_6 : (6 : Int32).toInt = 6 := rfl
theorem zt_7 : (7 : Int32).toInt = 7 := rfl
theorem zt_8 : (8 : Int32).toInt = 8 := rfl
theorem zt_9 : (9 : Int32).toInt = 9 := rfl
theorem zt_10 : (10 : Int32).toInt = 10 := rfl
theorem zt_11 : (11 : Int32).toInt = 11 := rfl
theorem zt_12 : (12 : Int32).toInt = 12 := rfl
theorem zt_13 : (13 : Int32).toInt = 13 := rfl
theorem zt_14 : (14 : Int32).toInt = 14 := rfl
theorem zt_15 : (15 : Int32).toInt = 15 := rfl
theorem zt_16 : (16 : Int32).toInt = 16 := rfl
theorem zt_17 : (17 : Int32).toInt = 17 := rfl
theorem zt_18 : (18 : Int32).toInt = 18 := rfl
theorem zt_19 : (19 : Int32).toInt = 19 := rfl
theorem zt_20 : (20 : Int32).toInt = 20 := rfl
theorem zt_21 : (21 : Int32).toInt = 21 := rfl
theorem zt_22 : (22 : Int32).toInt = 22 := rfl
theorem zt_23 : (23 : Int32).toInt = 23 := rfl
theorem zt_24 : (24 : Int32).toInt = 24 := rfl
theorem zt_25 : (25 : Int32).toInt = 25 := rfl
theorem zt_26 : (26 : Int32).toInt = 26 := rfl
theorem zt_27 : (27 : Int32).toInt = 27 := rfl
theorem zt_28 : (28 : Int32).toInt = 28 := rfl
theorem zt_29 : (29 : Int32).toInt = 29 := rfl
theorem zt_30 : (30 : Int32).toInt = 30 := rfl
theorem zt_31 : (31 : Int32).toInt = 31 := rfl
theorem zt_63 : (63 : Int32).toInt = 63 := rfl
theorem zt_255 : (255 : Int32).toInt = 255 := rfl
theorem zt_400 : (400 : Int32).toInt = 400 := rfl
theorem zt_401 : (401 : Int32).toInt = 401 := rfl
theorem zt_397 : (397 : Int32).toInt = 397 := rfl
theorem zt_511 : (511 : Int32).toInt = 511 := rfl
theorem zt_512 : (512 : Int32).toInt = 512 := rfl
theorem zt_1024 : (1024 : Int32).toInt = 1024 := rfl
theorem zt_1023 : (1023 : Int32).toInt = 1023 := rfl
theorem zt_2048 : (2048 : Int32).toInt = 2048 := rfl
theorem zt_m1 : (-1 : Int32).toInt = -1 := rfl
theorem zt_m2 : (-2 : Int32).toInt = -2 := rfl
theorem zt_m9 : (-9 : Int32).toInt = -9 := rfl
theorem zb_t {c : Prop} [Decidable c] (h : c) : zb (decide c) = 1 := by simp [zb, h]
theorem zb_f {c : Prop} [Decidable c] (h : ¬ c) : zb (decide c) = 0 := by simp [zb, h]
theorem zb_0 {b : Bool} : zb b = 0 ↔ b = false := by cases b <;> simp [zb]
theorem zb_1 {b : Bool} : ¬ zb b = 0 ↔ b = true := by cases b <;> simp [zb]
theorem nI_both {x : Int32} {P i : Nat} (hP : x = nI P) (h : P ≤ 5) (hi : i < P) : 0 ≤ nI i ∧ nI i < x := ⟨nI_pos' (by omega), by rw [hP]; exact nI_lt hi (by omega)⟩
theorem nI_find {P i m mc : Nat} (hP5 : P ≤ 5) (hi : i < P) (hm : m < mc) (hm6 : mc ≤ 16) : nI i * 16 + nI m = nI (16 * i + m) := by
  rw [show (16 : Int32) = nI 16 from rfl, pk_mul, nI_add, Nat.mul_comm]
theorem i32_sub1 (x : Int32) : x + 1 - 1 = x := by
  apply Int32.toBitVec_inj.mp
  simp
theorem zsplit4 (x : Int32) : x = 1 ∨ x = 2 ∨ x = 3 ∨ x = 4 ∨ (x.toInt < 1 ∨ 4 < x.toInt) := by
  have f : ∀ k : Int32, x.toInt = k.toInt → x = k := fun k h => Int32.toInt_inj.mp h
  have h1 := f 1
  have h2 := f 2
  have h3 := f 3
  have h4 := f 4
  rw [zt_1] at h1
  rw [zt_2] at h2
  rw [zt_3] at h3
  rw [zt_4] at h4
  by_cases a1 : x.toInt = 1
  · exact Or.inl (h1 a1)
  by_cases a2 : x.toInt = 2
  · exact Or.inr (Or.inl (h2 a2))
  by_cases a3 : x.toInt = 3
  · exact Or.inr (Or.inr (Or.inl (h3 a3)))
  by_cases a4 : x.toInt = 4
  · exact Or.inr (Or.inr (Or.inr (Or.inl (h4 a4))))
  · exact Or.inr (Or.inr (Or.inr (Or.inr (by omega))))
def xLoc (k p : Int32) : Int32 := (k.toUInt32 >>> ((3 * p).toUInt32 &&& Int32.toUInt32 31)).toInt32 &&& 7
def xVal (k v : Int32) : Int32 := (k.toUInt32 >>> ((15 + 4 * v).toUInt32 &&& Int32.toUInt32 31)).toInt32 &&& 15
def xWLoc (k p x : Int32) : Int32 := (k &&& ((7 <<< ((3 * p) &&& 31)) ^^^ (-1))) ||| (x <<< ((3 * p) &&& 31))
def xWVal (k v x : Int32) : Int32 := (k &&& ((15 <<< ((15 + 4 * v) &&& 31)) ^^^ (-1))) ||| (x <<< ((15 + 4 * v) &&& 31))
/-- the guard of the move a at a key -/
def xGA (σ : zS) (a : Nat) (k : Int32) : Bool :=
  if zF σ 1 5 a = 1 then decide (xVal k (zF σ 1 6 a) = zF σ 1 7 a) else if zF σ 1 5 a = 2 then decide (¬ xVal k (zF σ 1 6 a) = zF σ 1 7 a) else if zF σ 1 5 a = 3 then decide (xVal k (zF σ 1 6 a) < zF σ 1 7 a) else if zF σ 1 5 a = 4 then decide (zF σ 1 7 a < xVal k (zF σ 1 6 a)) else true
/-- the key behind the deed of the move a; -1 if it leads out -/
def xAD (σ : zS) (a : Nat) (k : Int32) : Int32 :=
  if zF σ 1 8 a = 0 then k else if zF σ 1 8 a = 1 then (if 0 ≤ zF σ 1 10 a ∧ zF σ 1 10 a ≤ zF σ 1 11 a then xWVal k (zF σ 1 9 a) (zF σ 1 10 a) else -1)
  else (if 0 ≤ xVal k (zF σ 1 9 a) + zF σ 1 10 a ∧ xVal k (zF σ 1 9 a) + zF σ 1 10 a ≤ zF σ 1 11 a then xWVal k (zF σ 1 9 a) (xVal k (zF σ 1 9 a) + zF σ 1 10 a) else -1)
def xAG (σ : zS) (a : Nat) (k : Int32) : Int32 := xWLoc k (zF σ 1 0 a) (zF σ 1 3 a)
def xOpen (σ : zS) (a : Nat) (k : Int32) : Bool := decide (xLoc k (zF σ 1 0 a) = zF σ 1 2 a) && (xGA σ a k && decide (0 ≤ xAD σ a k))
set_option maxHeartbeats 4000000 in
set_option maxRecDepth 100000 in
theorem c_X2_hasProcess {l : Launch} {σ : zS} (h : xSh σ) (p : Int32) : zAM l zmX2_hasProcess 0 0 0 0 [.ref 2, .int p] σ (fun v σ' => v = some (.int (zb (decide (0 ≤ p ∧ p < xP σ)))) ∧ σ' = σ) := by
  refine zAM.of (by decide +kernel) (Nat.le_of_ble_eq_true rfl) ?_
  refine zw_iload_n dX2_hasProcess_0 rfl ?_
  refine zw_iflt (tgt := 16) dX2_hasProcess_1 (by decide) (fun c1 => ?_) (fun c1 => ?_)
  · refine zw_iconst (x := 0) dX2_hasProcess_16 rfl ?_
    refine zw_iret dX2_hasProcess_17 rfl rfl ?_
    unfold xP
    refine ⟨?_, rfl⟩
    first | rw [zb_t (by simp only [Int32.lt_iff_toInt_lt, Int32.le_iff_toInt_le, vp_in_iff, zt_0, zt_1, zt_2, zt_3, zt_4, zt_5, zt_6, zt_7, zt_8, zt_9, zt_10, zt_11, zt_12, zt_13, zt_14, zt_15, zt_16, zt_17, zt_18, zt_19, zt_20, zt_21, zt_22, zt_23, zt_24, zt_25, zt_26, zt_27, zt_28, zt_29, zt_30, zt_31, zt_63, zt_255, zt_400, zt_401, zt_397, zt_511, zt_512, zt_1024, zt_1023, zt_2048, zt_m1, zt_m2, zt_m9] at *; omega)] | rw [zb_f (by simp only [Int32.lt_iff_toInt_lt, Int32.le_iff_toInt_le, vp_in_iff, zt_0, zt_1, zt_2, zt_3, zt_4, zt_5, zt_6, zt_7, zt_8, zt_9, zt_10, zt_11, zt_12, zt_13, zt_14, zt_15, zt_16, zt_17, zt_18, zt_19, zt_20, zt_21, zt_22, zt_23, zt_24, zt_25, zt_26, zt_27, zt_28, zt_29, zt_30, zt_31, zt_63, zt_255, zt_400, zt_401, zt_397, zt_511, zt_512, zt_1024, zt_1023, zt_2048, zt_m1, zt_m2, zt_m9] at *; omega)]
  · refine zw_iload_n dX2_hasProcess_4 rfl ?_
    refine zw_aload_n dX2_hasProcess_5 rfl ?_
    refine zw_getI dX2_hasProcess_6 zfX2_30 rfl (xk_2 h) (by decide) ?_
    refine zw_icmpge (tgt := 16) dX2_hasProcess_9 (by decide) (fun c9 => ?_) (fun c9 => ?_)
    · refine zw_iconst (x := 0) dX2_hasProcess_16 rfl ?_
      refine zw_iret dX2_hasProcess_17 rfl rfl ?_
      unfold xP
      refine ⟨?_, rfl⟩
      first | rw [zb_t (by simp only [Int32.lt_iff_toInt_lt, Int32.le_iff_toInt_le, vp_in_iff, zt_0, zt_1, zt_2, zt_3, zt_4, zt_5, zt_6, zt_7, zt_8, zt_9, zt_10, zt_11, zt_12, zt_13, zt_14, zt_15, zt_16, zt_17, zt_18, zt_19, zt_20, zt_21, zt_22, zt_23, zt_24, zt_25, zt_26, zt_27, zt_28, zt_29, zt_30, zt_31, zt_63, zt_255, zt_400, zt_401, zt_397, zt_511, zt_512, zt_1024, zt_1023, zt_2048, zt_m1, zt_m2, zt_m9] at *; omega)] | rw [zb_f (by simp only [Int32.lt_iff_toInt_lt, Int32.le_iff_toInt_le, vp_in_iff, zt_0, zt_1, zt_2, zt_3, zt_4, zt_5, zt_6, zt_7, zt_8, zt_9, zt_10, zt_11, zt_12, zt_13, zt_14, zt_15, zt_16, zt_17, zt_18, zt_19, zt_20, zt_21, zt_22, zt_23, zt_24, zt_25, zt_26, zt_27, zt_28, zt_29, zt_30, zt_31, zt_63, zt_255, zt_400, zt_401, zt_397, zt_511, zt_512, zt_1024, zt_1023, zt_2048, zt_m1, zt_m2, zt_m9] at *; omega)]
    · refine zw_iconst (x := 1) dX2_hasProcess_12 rfl ?_
      refine zw_goto (tgt := 17) dX2_hasProcess_13 (by decide) ?_
      refine zw_iret dX2_hasProcess_17 rfl rfl ?_
      unfold xP
      refine ⟨?_, rfl⟩
      first | rw [zb_t (by simp only [Int32.lt_iff_toInt_lt, Int32.le_iff_toInt_le, vp_in_iff, zt_0, zt_1, zt_2, zt_3, zt_4, zt_5, zt_6, zt_7, zt_8, zt_9, zt_10, zt_11, zt_12, zt_13, zt_14, zt_15, zt_16, zt_17, zt_18, zt_19, zt_20, zt_21, zt_22, zt_23, zt_24, zt_25, zt_26, zt_27, zt_28, zt_29, zt_30, zt_31, zt_63, zt_255, zt_400, zt_401, zt_397, zt_511, zt_512, zt_1024, zt_1023, zt_2048, zt_m1, zt_m2, zt_m9] at *; omega)] | rw [zb_f (by simp only [Int32.lt_iff_toInt_lt, Int32.le_iff_toInt_le, vp_in_iff, zt_0, zt_1, zt_2, zt_3, zt_4, zt_5, zt_6, zt_7, zt_8, zt_9, zt_10, zt_11, zt_12, zt_13, zt_14, zt_15, zt_16, zt_17, zt_18, zt_19, zt_20, zt_21, zt_22, zt_23, zt_24, zt_25, zt_26, zt_27, zt_28, zt_29, zt_30, zt_31, zt_63, zt_255, zt_400, zt_401, zt_397, zt_511, zt_512, zt_1024, zt_1023, zt_2048, zt_m1, zt_m2, zt_m9] at *; omega)]
set_option maxHeartbeats 4000000 in
set_option maxRecDepth 100000 in
theorem c_X2_hasVariable {l : Launch} {σ : zS} (h : xSh σ) (p : Int32) : zAM l zmX2_hasVariable 0 0 0 0 [.ref 2, .int p] σ (fun v σ' => v = some (.int (zb (decide (0 ≤ p ∧ p < xV σ)))) ∧ σ' = σ) := by
  refine zAM.of (by decide +kernel) (Nat.le_of_ble_eq_true rfl) ?_
  refine zw_iload_n dX2_hasVariable_0 rfl ?_
  refine zw_iflt (tgt := 16) dX2_hasVariable_1 (by decide) (fun c1 => ?_) (fun c1 => ?_)
  · refine zw_iconst (x := 0) dX2_hasVariable_16 rfl ?_
    refine zw_iret dX2_hasVariable_17 rfl rfl ?_
    unfold xV
    refine ⟨?_, rfl⟩
    first | rw [zb_t (by simp only [Int32.lt_iff_toInt_lt, Int32.le_iff_toInt_le, vp_in_iff, zt_0, zt_1, zt_2, zt_3, zt_4, zt_5, zt_6, zt_7, zt_8, zt_9, zt_10, zt_11, zt_12, zt_13, zt_14, zt_15, zt_16, zt_17, zt_18, zt_19, zt_20, zt_21, zt_22, zt_23, zt_24, zt_25, zt_26, zt_27, zt_28, zt_29, zt_30, zt_31, zt_63, zt_255, zt_400, zt_401, zt_397, zt_511, zt_512, zt_1024, zt_1023, zt_2048, zt_m1, zt_m2, zt_m9] at *; omega)] | rw [zb_f (by simp only [Int32.lt_iff_toInt_lt, Int32.le_iff_toInt_le, vp_in_iff, zt_0, zt_1, zt_2, zt_3, zt_4, zt_5, zt_6, zt_7, zt_8, zt_9, zt_10, zt_11, zt_12, zt_13, zt_14, zt_15, zt_16, zt_17, zt_18, zt_19, zt_20, zt_21, zt_22, zt_23, zt_24, zt_25, zt_26, zt_27, zt_28, zt_29, zt_30, zt_31, zt_63, zt_255, zt_400, zt_401, zt_397, zt_511, zt_512, zt_1024, zt_1023, zt_2048, zt_m1, zt_m2, zt_m9] at *; omega)]
  · refine zw_iload_n dX2_hasVariable_4 rfl ?_
    refine zw_aload_n dX2_hasVariable_5 rfl ?_
    refine zw_getI dX2_hasVariable_6 zfX2_38 rfl (xk_2 h) (by decide) ?_
    refine zw_icmpge (tgt := 16) dX2_hasVariable_9 (by decide) (fun c9 => ?_) (fun c9 => ?_)
    · refine zw_iconst (x := 0) dX2_hasVariable_16 rfl ?_
      refine zw_iret dX2_hasVariable_17 rfl rfl ?_
      unfold xV
      refine ⟨?_, rfl⟩
      first | rw [zb_t (by simp only [Int32.lt_iff_toInt_lt, Int32.le_iff_toInt_le, vp_in_iff, zt_0, zt_1, zt_2, zt_3, zt_4, zt_5, zt_6, zt_7, zt_8, zt_9, zt_10, zt_11, zt_12, zt_13, zt_14, zt_15, zt_16, zt_17, zt_18, zt_19, zt_20, zt_21, zt_22, zt_23, zt_24, zt_25, zt_26, zt_27, zt_28, zt_29, zt_30, zt_31, zt_63, zt_255, zt_400, zt_401, zt_397, zt_511, zt_512, zt_1024, zt_1023, zt_2048, zt_m1, zt_m2, zt_m9] at *; omega)] | rw [zb_f (by simp only [Int32.lt_iff_toInt_lt, Int32.le_iff_toInt_le, vp_in_iff, zt_0, zt_1, zt_2, zt_3, zt_4, zt_5, zt_6, zt_7, zt_8, zt_9, zt_10, zt_11, zt_12, zt_13, zt_14, zt_15, zt_16, zt_17, zt_18, zt_19, zt_20, zt_21, zt_22, zt_23, zt_24, zt_25, zt_26, zt_27, zt_28, zt_29, zt_30, zt_31, zt_63, zt_255, zt_400, zt_401, zt_397, zt_511, zt_512, zt_1024, zt_1023, zt_2048, zt_m1, zt_m2, zt_m9] at *; omega)]
    · refine zw_iconst (x := 1) dX2_hasVariable_12 rfl ?_
      refine zw_goto (tgt := 17) dX2_hasVariable_13 (by decide) ?_
      refine zw_iret dX2_hasVariable_17 rfl rfl ?_
      unfold xV
      refine ⟨?_, rfl⟩
      first | rw [zb_t (by simp only [Int32.lt_iff_toInt_lt, Int32.le_iff_toInt_le, vp_in_iff, zt_0, zt_1, zt_2, zt_3, zt_4, zt_5, zt_6, zt_7, zt_8, zt_9, zt_10, zt_11, zt_12, zt_13, zt_14, zt_15, zt_16, zt_17, zt_18, zt_19, zt_20, zt_21, zt_22, zt_23, zt_24, zt_25, zt_26, zt_27, zt_28, zt_29, zt_30, zt_31, zt_63, zt_255, zt_400, zt_401, zt_397, zt_511, zt_512, zt_1024, zt_1023, zt_2048, zt_m1, zt_m2, zt_m9] at *; omega)] | rw [zb_f (by simp only [Int32.lt_iff_toInt_lt, Int32.le_iff_toInt_le, vp_in_iff, zt_0, zt_1, zt_2, zt_3, zt_4, zt_5, zt_6, zt_7, zt_8, zt_9, zt_10, zt_11, zt_12, zt_13, zt_14, zt_15, zt_16, zt_17, zt_18, zt_19, zt_20, zt_21, zt_22, zt_23, zt_24, zt_25, zt_26, zt_27, zt_28, zt_29, zt_30, zt_31, zt_63, zt_255, zt_400, zt_401, zt_397, zt_511, zt_512, zt_1024, zt_1023, zt_2048, zt_m1, zt_m2, zt_m9] at *; omega)]
set_option maxHeartbeats 4000000 in
set_option maxRecDepth 100000 in
theorem c_X5_isBetween {l : Launch} {σ : zS} (x a b : Int32) : zAM l zmX5_isBetween 0 0 0 0 [.int x, .int a, .int b] σ (fun v σ' => v = some (.int (zb (decide (a ≤ x ∧ x ≤ b)))) ∧ σ' = σ) := by
  refine zAM.of (by decide +kernel) (Nat.le_of_ble_eq_true rfl) ?_
  refine zw_iload_n dX5_isBetween_0 rfl ?_
  refine zw_iload_n dX5_isBetween_1 rfl ?_
  refine zw_icmplt (tgt := 14) dX5_isBetween_2 (by decide) (fun c2 => ?_) (fun c2 => ?_)
  · refine zw_iconst (x := 0) dX5_isBetween_14 rfl ?_
    refine zw_iret dX5_isBetween_15 rfl rfl ?_
    refine ⟨?_, rfl⟩
    first | rw [zb_t (by simp only [Int32.lt_iff_toInt_lt, Int32.le_iff_toInt_le, vp_in_iff, zt_0, zt_1, zt_2, zt_3, zt_4, zt_5, zt_6, zt_7, zt_8, zt_9, zt_10, zt_11, zt_12, zt_13, zt_14, zt_15, zt_16, zt_17, zt_18, zt_19, zt_20, zt_21, zt_22, zt_23, zt_24, zt_25, zt_26, zt_27, zt_28, zt_29, zt_30, zt_31, zt_63, zt_255, zt_400, zt_401, zt_397, zt_511, zt_512, zt_1024, zt_1023, zt_2048, zt_m1, zt_m2, zt_m9] at *; omega)] | rw [zb_f (by simp only [Int32.lt_iff_toInt_lt, Int32.le_iff_toInt_le, vp_in_iff, zt_0, zt_1, zt_2, zt_3, zt_4, zt_5, zt_6, zt_7, zt_8, zt_9, zt_10, zt_11, zt_12, zt_13, zt_14, zt_15, zt_16, zt_17, zt_18, zt_19, zt_20, zt_21, zt_22, zt_23, zt_24, zt_25, zt_26, zt_27, zt_28, zt_29, zt_30, zt_31, zt_63, zt_255, zt_400, zt_401, zt_397, zt_511, zt_512, zt_1024, zt_1023, zt_2048, zt_m1, zt_m2, zt_m9] at *; omega)]
  · refine zw_iload_n dX5_isBetween_5 rfl ?_
    refine zw_iload_n dX5_isBetween_6 rfl ?_
    refine zw_icmpgt (tgt := 14) dX5_isBetween_7 (by decide) (fun c7 => ?_) (fun c7 => ?_)
    · refine zw_iconst (x := 0) dX5_isBetween_14 rfl ?_
      refine zw_iret dX5_isBetween_15 rfl rfl ?_
      refine ⟨?_, rfl⟩
      first | rw [zb_t (by simp only [Int32.lt_iff_toInt_lt, Int32.le_iff_toInt_le, vp_in_iff, zt_0, zt_1, zt_2, zt_3, zt_4, zt_5, zt_6, zt_7, zt_8, zt_9, zt_10, zt_11, zt_12, zt_13, zt_14, zt_15, zt_16, zt_17, zt_18, zt_19, zt_20, zt_21, zt_22, zt_23, zt_24, zt_25, zt_26, zt_27, zt_28, zt_29, zt_30, zt_31, zt_63, zt_255, zt_400, zt_401, zt_397, zt_511, zt_512, zt_1024, zt_1023, zt_2048, zt_m1, zt_m2, zt_m9] at *; omega)] | rw [zb_f (by simp only [Int32.lt_iff_toInt_lt, Int32.le_iff_toInt_le, vp_in_iff, zt_0, zt_1, zt_2, zt_3, zt_4, zt_5, zt_6, zt_7, zt_8, zt_9, zt_10, zt_11, zt_12, zt_13, zt_14, zt_15, zt_16, zt_17, zt_18, zt_19, zt_20, zt_21, zt_22, zt_23, zt_24, zt_25, zt_26, zt_27, zt_28, zt_29, zt_30, zt_31, zt_63, zt_255, zt_400, zt_401, zt_397, zt_511, zt_512, zt_1024, zt_1023, zt_2048, zt_m1, zt_m2, zt_m9] at *; omega)]
    · refine zw_iconst (x := 1) dX5_isBetween_10 rfl ?_
      refine zw_goto (tgt := 15) dX5_isBetween_11 (by decide) ?_
      refine zw_iret dX5_isBetween_15 rfl rfl ?_
      refine ⟨?_, rfl⟩
      first | rw [zb_t (by simp only [Int32.lt_iff_toInt_lt, Int32.le_iff_toInt_le, vp_in_iff, zt_0, zt_1, zt_2, zt_3, zt_4, zt_5, zt_6, zt_7, zt_8, zt_9, zt_10, zt_11, zt_12, zt_13, zt_14, zt_15, zt_16, zt_17, zt_18, zt_19, zt_20, zt_21, zt_22, zt_23, zt_24, zt_25, zt_26, zt_27, zt_28, zt_29, zt_30, zt_31, zt_63, zt_255, zt_400, zt_401, zt_397, zt_511, zt_512, zt_1024, zt_1023, zt_2048, zt_m1, zt_m2, zt_m9] at *; omega)] | rw [zb_f (by simp only [Int32.lt_iff_toInt_lt, Int32.le_iff_toInt_le, vp_in_iff, zt_0, zt_1, zt_2, zt_3, zt_4, zt_5, zt_6, zt_7, zt_8, zt_9, zt_10, zt_11, zt_12, zt_13, zt_14, zt_15, zt_16, zt_17, zt_18, zt_19, zt_20, zt_21, zt_22, zt_23, zt_24, zt_25, zt_26, zt_27, zt_28, zt_29, zt_30, zt_31, zt_63, zt_255, zt_400, zt_401, zt_397, zt_511, zt_512, zt_1024, zt_1023, zt_2048, zt_m1, zt_m2, zt_m9] at *; omega)]
set_option maxHeartbeats 4000000 in
set_option maxRecDepth 100000 in
theorem c_X5_locationIn {l : Launch} {σ : zS} (x a : Int32) : zAM l zmX5_locationIn 0 0 0 0 [.int x, .int a] σ (fun v σ' => v = some (.int (xLoc x a)) ∧ σ' = σ) := by
  refine zAM.of (by decide +kernel) (Nat.le_of_ble_eq_true rfl) ?_
  refine zw_iload_n dX5_locationIn_0 rfl ?_
  refine zw_iconst (x := 3) dX5_locationIn_1 rfl ?_
  refine zw_iload_n dX5_locationIn_2 rfl ?_
  refine zw_imul dX5_locationIn_3 ?_
  refine zw_iushr dX5_locationIn_4 ?_
  refine zw_bipush (x := 7) dX5_locationIn_5 rfl ?_
  refine zw_iand dX5_locationIn_7 ?_
  refine zw_iret dX5_locationIn_8 rfl rfl ?_
  exact ⟨rfl, rfl⟩
set_option maxHeartbeats 4000000 in
set_option maxRecDepth 100000 in
theorem c_X5_valueIn {l : Launch} {σ : zS} (x a : Int32) : zAM l zmX5_valueIn 0 0 0 0 [.int x, .int a] σ (fun v σ' => v = some (.int (xVal x a)) ∧ σ' = σ) := by
  refine zAM.of (by decide +kernel) (Nat.le_of_ble_eq_true rfl) ?_
  refine zw_iload_n dX5_valueIn_0 rfl ?_
  refine zw_bipush (x := 15) dX5_valueIn_1 rfl ?_
  refine zw_iconst (x := 4) dX5_valueIn_3 rfl ?_
  refine zw_iload_n dX5_valueIn_4 rfl ?_
  refine zw_imul dX5_valueIn_5 ?_
  refine zw_iadd dX5_valueIn_6 ?_
  refine zw_iushr dX5_valueIn_7 ?_
  refine zw_bipush (x := 15) dX5_valueIn_8 rfl ?_
  refine zw_iand dX5_valueIn_10 ?_
  refine zw_iret dX5_valueIn_11 rfl rfl ?_
  exact ⟨rfl, rfl⟩
set_option maxHeartbeats 4000000 in
set_option maxRecDepth 100000 in
theorem c_X5_withLocation {l : Launch} {σ : zS} (x a b : Int32) : zAM l zmX5_withLocation 0 0 0 0 [.int x, .int a, .int b] σ (fun v σ' => v = some (.int (xWLoc x a b)) ∧ σ' = σ) := by
  refine zAM.of (by decide +kernel) (Nat.le_of_ble_eq_true rfl) ?_
  refine zw_iconst (x := 3) dX5_withLocation_0 rfl ?_
  refine zw_iload_n dX5_withLocation_1 rfl ?_
  refine zw_imul dX5_withLocation_2 ?_
  refine zw_istore_n dX5_withLocation_3 (by decide) rfl ?_
  refine zw_iload_n dX5_withLocation_4 rfl ?_
  refine zw_bipush (x := 7) dX5_withLocation_5 rfl ?_
  refine zw_iload_n dX5_withLocation_7 rfl ?_
  refine zw_ishl dX5_withLocation_8 ?_
  refine zw_iconst (x := -1) dX5_withLocation_9 rfl ?_
  refine zw_ixor dX5_withLocation_10 ?_
  refine zw_iand dX5_withLocation_11 ?_
  refine zw_iload_n dX5_withLocation_12 rfl ?_
  refine zw_iload_n dX5_withLocation_13 rfl ?_
  refine zw_ishl dX5_withLocation_14 ?_
  refine zw_ior dX5_withLocation_15 ?_
  refine zw_iret dX5_withLocation_16 rfl rfl ?_
  exact ⟨rfl, rfl⟩
set_option maxHeartbeats 4000000 in
set_option maxRecDepth 100000 in
theorem c_X5_withValue {l : Launch} {σ : zS} (x a b : Int32) : zAM l zmX5_withValue 0 0 0 0 [.int x, .int a, .int b] σ (fun v σ' => v = some (.int (xWVal x a b)) ∧ σ' = σ) := by
  refine zAM.of (by decide +kernel) (Nat.le_of_ble_eq_true rfl) ?_
  refine zw_bipush (x := 15) dX5_withValue_0 rfl ?_
  refine zw_iconst (x := 4) dX5_withValue_2 rfl ?_
  refine zw_iload_n dX5_withValue_3 rfl ?_
  refine zw_imul dX5_withValue_4 ?_
  refine zw_iadd dX5_withValue_5 ?_
  refine zw_istore_n dX5_withValue_6 (by decide) rfl ?_
  refine zw_iload_n dX5_withValue_7 rfl ?_
  refine zw_bipush (x := 15) dX5_withValue_8 rfl ?_
  refine zw_iload_n dX5_withValue_10 rfl ?_
  refine zw_ishl dX5_withValue_11 ?_
  refine zw_iconst (x := -1) dX5_withValue_12 rfl ?_
  refine zw_ixor dX5_withValue_13 ?_
  refine zw_iand dX5_withValue_14 ?_
  refine zw_iload_n dX5_withValue_15 rfl ?_
  refine zw_iload_n dX5_withValue_16 rfl ?_
  refine zw_ishl dX5_withValue_17 ?_
  refine zw_ior dX5_withValue_18 ?_
  refine zw_iret dX5_withValue_19 rfl rfl ?_
  exact ⟨rfl, rfl⟩
set_option maxHeartbeats 4000000 in
set_option maxRecDepth 100000 in
theorem c_X2_movesOf {l : Launch} {σ : zS} (h : xSh σ) {P : Nat} (hP : xP σ = nI P) (hP5 : P ≤ 5) {i : Nat} (hi : i < P) : zAM l zmX2_movesOf 1 21 0 0 [.ref 2, .int (nI i)] σ (fun v σ' => v = some (.int (zI σ 4 i)) ∧ σ' = σ) := by
  refine zAM.of (by decide +kernel) (Nat.le_of_ble_eq_true rfl) ?_
  refine zw_aload_n dX2_movesOf_0 rfl ?_
  refine zw_iload_n dX2_movesOf_1 rfl ?_
  refine zw_callV (y' := zmX2_hasProcess) dX2_movesOf_2 zlX2_34 zmX2_hasProcess_ok (xk_2 h) (by decide) rfl (c_X2_hasProcess h _) rfl rfl (Nat.le_of_ble_eq_true rfl) ⟨Nat.le_of_ble_eq_true rfl, Nat.le_of_ble_eq_true rfl⟩ ⟨Nat.le_of_ble_eq_true rfl, Nat.le_of_ble_eq_true rfl⟩ ?_
  intro v2 s2 q2
  obtain ⟨rfl, rfl⟩ := q2
  rw [zb_t (nI_both hP hP5 hi)]
  refine zw_ifeq (tgt := 17) dX2_movesOf_5 (by decide) (fun c5 => ?_) (fun c5 => ?_)
  · exact absurd c5 (by decide)
  · refine zw_aload_n dX2_movesOf_8 rfl ?_
    refine zw_getR dX2_movesOf_9 zfX2_15 rfl (xk_2 h) (by decide) (xg_2_1 h) ?_
    refine zw_iload_n dX2_movesOf_12 rfl ?_
    refine zw_iaload dX2_movesOf_13 (xk_4 h) (zin_of (xl_4 h) (vp_in_nI (by omega) (by omega))) ?_
    refine zw_goto (tgt := 18) dX2_movesOf_14 (by decide) ?_
    refine zw_iret dX2_movesOf_18 rfl rfl ?_
    rw [nI_clamp (by omega)]
    exact ⟨rfl, rfl⟩
set_option maxHeartbeats 4000000 in
set_option maxRecDepth 100000 in
theorem c_X2_hasLocation {l : Launch} {σ : zS} (h : xSh σ) {P : Nat} (hP : xP σ = nI P) (hP5 : P ≤ 5) {i : Nat} (hi : i < P) (x : Int32) : zAM l zmX2_hasLocation 1 21 0 0 [.ref 2, .int (nI i), .int x] σ (fun v σ' => v = some (.int (zb (decide (0 ≤ x ∧ x < zI σ 3 i)))) ∧ σ' = σ) := by
  refine zAM.of (by decide +kernel) (Nat.le_of_ble_eq_true rfl) ?_
  refine zw_aload_n dX2_hasLocation_0 rfl ?_
  refine zw_iload_n dX2_hasLocation_1 rfl ?_
  refine zw_callV (y' := zmX2_hasProcess) dX2_hasLocation_2 zlX2_34 zmX2_hasProcess_ok (xk_2 h) (by decide) rfl (c_X2_hasProcess h _) rfl rfl (Nat.le_of_ble_eq_true rfl) ⟨Nat.le_of_ble_eq_true rfl, Nat.le_of_ble_eq_true rfl⟩ ⟨Nat.le_of_ble_eq_true rfl, Nat.le_of_ble_eq_true rfl⟩ ?_
  intro v2 s2 q2
  obtain ⟨rfl, rfl⟩ := q2
  rw [zb_t (nI_both hP hP5 hi)]
  refine zw_ifeq (tgt := 26) dX2_hasLocation_5 (by decide) (fun c5 => ?_) (fun c5 => ?_)
  · refine zw_iconst (x := 0) dX2_hasLocation_26 rfl ?_
    refine zw_iret dX2_hasLocation_27 rfl rfl ?_
    first
      | exact absurd c5 (by decide)
      | (refine ⟨?_, rfl⟩; (try rw [nI_clamp (by omega)] at c19); first | rw [zb_t (by simp only [Int32.lt_iff_toInt_lt, Int32.le_iff_toInt_le, vp_in_iff, zt_0, zt_1, zt_2, zt_3, zt_4, zt_5, zt_6, zt_7, zt_8, zt_9, zt_10, zt_11, zt_12, zt_13, zt_14, zt_15, zt_16, zt_17, zt_18, zt_19, zt_20, zt_21, zt_22, zt_23, zt_24, zt_25, zt_26, zt_27, zt_28, zt_29, zt_30, zt_31, zt_63, zt_255, zt_400, zt_401, zt_397, zt_511, zt_512, zt_1024, zt_1023, zt_2048, zt_m1, zt_m2, zt_m9] at *; omega)] | rw [zb_f (by simp only [Int32.lt_iff_toInt_lt, Int32.le_iff_toInt_le, vp_in_iff, zt_0, zt_1, zt_2, zt_3, zt_4, zt_5, zt_6, zt_7, zt_8, zt_9, zt_10, zt_11, zt_12, zt_13, zt_14, zt_15, zt_16, zt_17, zt_18, zt_19, zt_20, zt_21, zt_22, zt_23, zt_24, zt_25, zt_26, zt_27, zt_28, zt_29, zt_30, zt_31, zt_63, zt_255, zt_400, zt_401, zt_397, zt_511, zt_512, zt_1024, zt_1023, zt_2048, zt_m1, zt_m2, zt_m9] at *; omega)])
  · refine zw_iload_n dX2_hasLocation_8 rfl ?_
    refine zw_iflt (tgt := 26) dX2_hasLocation_9 (by decide) (fun c9 => ?_) (fun c9 => ?_)
    · refine zw_iconst (x := 0) dX2_hasLocation_26 rfl ?_
      refine zw_iret dX2_hasLocation_27 rfl rfl ?_
      first
        | exact absurd c5 (by decide)
        | (refine ⟨?_, rfl⟩; (try rw [nI_clamp (by omega)] at c19); first | rw [zb_t (by simp only [Int32.lt_iff_toInt_lt, Int32.le_iff_toInt_le, vp_in_iff, zt_0, zt_1, zt_2, zt_3, zt_4, zt_5, zt_6, zt_7, zt_8, zt_9, zt_10, zt_11, zt_12, zt_13, zt_14, zt_15, zt_16, zt_17, zt_18, zt_19, zt_20, zt_21, zt_22, zt_23, zt_24, zt_25, zt_26, zt_27, zt_28, zt_29, zt_30, zt_31, zt_63, zt_255, zt_400, zt_401, zt_397, zt_511, zt_512, zt_1024, zt_1023, zt_2048, zt_m1, zt_m2, zt_m9] at *; omega)] | rw [zb_f (by simp only [Int32.lt_iff_toInt_lt, Int32.le_iff_toInt_le, vp_in_iff, zt_0, zt_1, zt_2, zt_3, zt_4, zt_5, zt_6, zt_7, zt_8, zt_9, zt_10, zt_11, zt_12, zt_13, zt_14, zt_15, zt_16, zt_17, zt_18, zt_19, zt_20, zt_21, zt_22, zt_23, zt_24, zt_25, zt_26, zt_27, zt_28, zt_29, zt_30, zt_31, zt_63, zt_255, zt_400, zt_401, zt_397, zt_511, zt_512, zt_1024, zt_1023, zt_2048, zt_m1, zt_m2, zt_m9] at *; omega)])
    · refine zw_iload_n dX2_hasLocation_12 rfl ?_
      refine zw_aload_n dX2_hasLocation_13 rfl ?_
      refine zw_getR dX2_hasLocation_14 zfX2_9 rfl (xk_2 h) (by decide) (xg_2_0 h) ?_
      refine zw_iload_n dX2_hasLocation_17 rfl ?_
      refine zw_iaload dX2_hasLocation_18 (xk_3 h) (zin_of (xl_3 h) (vp_in_nI (by omega) (by omega))) ?_
      refine zw_icmpge (tgt := 26) dX2_hasLocation_19 (by decide) (fun c19 => ?_) (fun c19 => ?_)
      · refine zw_iconst (x := 0) dX2_hasLocation_26 rfl ?_
        refine zw_iret dX2_hasLocation_27 rfl rfl ?_
        first
          | exact absurd c5 (by decide)
          | (refine ⟨?_, rfl⟩; (try rw [nI_clamp (by omega)] at c19); first | rw [zb_t (by simp only [Int32.lt_iff_toInt_lt, Int32.le_iff_toInt_le, vp_in_iff, zt_0, zt_1, zt_2, zt_3, zt_4, zt_5, zt_6, zt_7, zt_8, zt_9, zt_10, zt_11, zt_12, zt_13, zt_14, zt_15, zt_16, zt_17, zt_18, zt_19, zt_20, zt_21, zt_22, zt_23, zt_24, zt_25, zt_26, zt_27, zt_28, zt_29, zt_30, zt_31, zt_63, zt_255, zt_400, zt_401, zt_397, zt_511, zt_512, zt_1024, zt_1023, zt_2048, zt_m1, zt_m2, zt_m9] at *; omega)] | rw [zb_f (by simp only [Int32.lt_iff_toInt_lt, Int32.le_iff_toInt_le, vp_in_iff, zt_0, zt_1, zt_2, zt_3, zt_4, zt_5, zt_6, zt_7, zt_8, zt_9, zt_10, zt_11, zt_12, zt_13, zt_14, zt_15, zt_16, zt_17, zt_18, zt_19, zt_20, zt_21, zt_22, zt_23, zt_24, zt_25, zt_26, zt_27, zt_28, zt_29, zt_30, zt_31, zt_63, zt_255, zt_400, zt_401, zt_397, zt_511, zt_512, zt_1024, zt_1023, zt_2048, zt_m1, zt_m2, zt_m9] at *; omega)])
      · refine zw_iconst (x := 1) dX2_hasLocation_22 rfl ?_
        refine zw_goto (tgt := 27) dX2_hasLocation_23 (by decide) ?_
        refine zw_iret dX2_hasLocation_27 rfl rfl ?_
        first
          | exact absurd c5 (by decide)
          | (refine ⟨?_, rfl⟩; (try rw [nI_clamp (by omega)] at c19); first | rw [zb_t (by simp only [Int32.lt_iff_toInt_lt, Int32.le_iff_toInt_le, vp_in_iff, zt_0, zt_1, zt_2, zt_3, zt_4, zt_5, zt_6, zt_7, zt_8, zt_9, zt_10, zt_11, zt_12, zt_13, zt_14, zt_15, zt_16, zt_17, zt_18, zt_19, zt_20, zt_21, zt_22, zt_23, zt_24, zt_25, zt_26, zt_27, zt_28, zt_29, zt_30, zt_31, zt_63, zt_255, zt_400, zt_401, zt_397, zt_511, zt_512, zt_1024, zt_1023, zt_2048, zt_m1, zt_m2, zt_m9] at *; omega)] | rw [zb_f (by simp only [Int32.lt_iff_toInt_lt, Int32.le_iff_toInt_le, vp_in_iff, zt_0, zt_1, zt_2, zt_3, zt_4, zt_5, zt_6, zt_7, zt_8, zt_9, zt_10, zt_11, zt_12, zt_13, zt_14, zt_15, zt_16, zt_17, zt_18, zt_19, zt_20, zt_21, zt_22, zt_23, zt_24, zt_25, zt_26, zt_27, zt_28, zt_29, zt_30, zt_31, zt_63, zt_255, zt_400, zt_401, zt_397, zt_511, zt_512, zt_1024, zt_1023, zt_2048, zt_m1, zt_m2, zt_m9] at *; omega)])
set_option maxHeartbeats 4000000 in
set_option maxRecDepth 100000 in
theorem c_X2_greatestOf {l : Launch} {σ : zS} (h : xSh σ) {V : Nat} (hV : xV σ = nI V) (hV4 : V ≤ 4) {i : Nat} (hi : i < V) : zAM l zmX2_greatestOf 1 21 0 0 [.ref 2, .int (nI i)] σ (fun v σ' => v = some (.int (zI σ 6 i)) ∧ σ' = σ) := by
  refine zAM.of (by decide +kernel) (Nat.le_of_ble_eq_true rfl) ?_
  refine zw_aload_n dX2_greatestOf_0 rfl ?_
  refine zw_iload_n dX2_greatestOf_1 rfl ?_
  refine zw_callV (y' := zmX2_hasVariable) dX2_greatestOf_2 zlX2_41 zmX2_hasVariable_ok (xk_2 h) (by decide) rfl (c_X2_hasVariable h _) rfl rfl (Nat.le_of_ble_eq_true rfl) ⟨Nat.le_of_ble_eq_true rfl, Nat.le_of_ble_eq_true rfl⟩ ⟨Nat.le_of_ble_eq_true rfl, Nat.le_of_ble_eq_true rfl⟩ ?_
  intro v2 s2 q2
  obtain ⟨rfl, rfl⟩ := q2
  rw [zb_t (nI_both hV (by omega) hi)]
  refine zw_ifeq (tgt := 17) dX2_greatestOf_5 (by decide) (fun c5 => ?_) (fun c5 => ?_)
  · exact absurd c5 (by decide)
  · refine zw_aload_n dX2_greatestOf_8 rfl ?_
    refine zw_getR dX2_greatestOf_9 zfX2_24 rfl (xk_2 h) (by decide) (xg_2_3 h) ?_
    refine zw_iload_n dX2_greatestOf_12 rfl ?_
    refine zw_iaload dX2_greatestOf_13 (xk_6 h) (zin_of (xl_6 h) (vp_in_nI (by omega) (by omega))) ?_
    refine zw_goto (tgt := 18) dX2_greatestOf_14 (by decide) ?_
    refine zw_iret dX2_greatestOf_18 rfl rfl ?_
    rw [nI_clamp (by omega)]
    exact ⟨rfl, rfl⟩
set_option maxHeartbeats 4000000 in
set_option maxRecDepth 100000 in
theorem c_X2_greatestOf_no {l : Launch} {σ : zS} (h : xSh σ) (x : Int32) (hx : ¬ (0 ≤ x ∧ x < xV σ)) : zAM l zmX2_greatestOf 1 21 0 0 [.ref 2, .int x] σ (fun v σ' => v = some (.int 0) ∧ σ' = σ) := by
  refine zAM.of (by decide +kernel) (Nat.le_of_ble_eq_true rfl) ?_
  refine zw_aload_n dX2_greatestOf_0 rfl ?_
  refine zw_iload_n dX2_greatestOf_1 rfl ?_
  refine zw_callV (y' := zmX2_hasVariable) dX2_greatestOf_2 zlX2_41 zmX2_hasVariable_ok (xk_2 h) (by decide) rfl (c_X2_hasVariable h _) rfl rfl (Nat.le_of_ble_eq_true rfl) ⟨Nat.le_of_ble_eq_true rfl, Nat.le_of_ble_eq_true rfl⟩ ⟨Nat.le_of_ble_eq_true rfl, Nat.le_of_ble_eq_true rfl⟩ ?_
  intro v2 s2 q2
  obtain ⟨rfl, rfl⟩ := q2
  rw [zb_f hx]
  refine zw_ifeq (tgt := 17) dX2_greatestOf_5 (by decide) (fun c5 => ?_) (fun c5 => ?_)
  · refine zw_iconst (x := 0) dX2_greatestOf_17 rfl ?_
    refine zw_iret dX2_greatestOf_18 rfl rfl ?_
    exact ⟨rfl, rfl⟩
  · exact absurd rfl c5
set_option maxHeartbeats 4000000 in
set_option maxRecDepth 100000 in
theorem c_X2_find {l : Launch} {σ : zS} (h : xSh σ) {P : Nat} (hP : xP σ = nI P) (hP5 : P ≤ 5) {i : Nat} (hi : i < P) {m mc : Nat} (hmc : zI σ 4 i = nI mc) (hm : m < mc) (hm6 : mc ≤ 16) {a : Nat} (ha : zR σ 5 (16 * i + m) = some a) : zAM l zmX2_find 2 42 0 0 [.ref 2, .int (nI i), .int (nI m)] σ (fun v σ' => v = some (.ref a) ∧ σ' = σ) := by
  refine zAM.of (by decide +kernel) (Nat.le_of_ble_eq_true rfl) ?_
  refine zw_iload_n dX2_find_0 rfl ?_
  refine zw_iflt (tgt := 13) dX2_find_1 (by decide) (fun c1 => ?_) (fun c1 => ?_)
  · first
      | exact absurd c1 (nI_pos (by omega))
      | (rw [hmc] at c10; exact absurd (nI_lt hm (by omega)) c10)
  · refine zw_iload_n dX2_find_4 rfl ?_
    refine zw_aload_n dX2_find_5 rfl ?_
    refine zw_iload_n dX2_find_6 rfl ?_
    refine zw_callV (y' := zmX2_movesOf) dX2_find_7 zlX2_44 zmX2_movesOf_ok (xk_2 h) (by decide) rfl (c_X2_movesOf h hP hP5 hi) rfl rfl (Nat.le_of_ble_eq_true rfl) ⟨Nat.le_of_ble_eq_true rfl, Nat.le_of_ble_eq_true rfl⟩ ⟨Nat.le_of_ble_eq_true rfl, Nat.le_of_ble_eq_true rfl⟩ ?_
    intro v7 s7 q7
    obtain ⟨rfl, rfl⟩ := q7
    refine zw_icmplt (tgt := 15) dX2_find_10 (by decide) (fun c10 => ?_) (fun c10 => ?_)
    · refine zw_aload_n dX2_find_15 rfl ?_
      refine zw_getR dX2_find_16 zfX2_20 rfl (xk_2 h) (by decide) (xg_2_2 h) ?_
      refine zw_iload_n dX2_find_19 rfl ?_
      refine zw_bipush (x := 16) dX2_find_20 rfl ?_
      refine zw_imul dX2_find_22 ?_
      refine zw_iload_n dX2_find_23 rfl ?_
      refine zw_iadd dX2_find_24 ?_
      refine zw_aaload (t := 3) dX2_find_25 (xk_5 h) rfl (by decide) (zin_of (xl_5 h) (by rw [nI_find hP5 hi hm hm6]; exact vp_in_nI (by omega) (by omega))) ?_
      rw [nI_find hP5 hi hm hm6, nI_clamp (by omega), ha]
      refine zw_aret dX2_find_26 rfl (Or.inl ⟨_, rfl⟩) ?_
      exact ⟨rfl, rfl⟩
    · first
        | exact absurd c1 (nI_pos (by omega))
        | (rw [hmc] at c10; exact absurd (nI_lt hm (by omega)) c10)
set_option maxHeartbeats 4000000 in
set_option maxRecDepth 100000 in
theorem c_X2_newProcess {l : Launch} {σ : zS} (h : xSh σ) (hin : vp_in (xP σ) 5) (x : Int32) : zAM l zmX2_newProcess 0 0 0 0 [.ref 2, .int x] σ (fun v σ' => v = some (.int (xP σ)) ∧ σ' = zsF (zsI σ 3 (xP σ).toNatClampNeg x) 2 5 2 (xP σ + 1)) := by
  refine zAM.of (by decide +kernel) (Nat.le_of_ble_eq_true rfl) ?_
  refine zw_aload_n dX2_newProcess_0 rfl ?_
  refine zw_getR dX2_newProcess_1 zfX2_9 rfl (xk_2 h) (by decide) (xg_2_0 h) ?_
  refine zw_aload_n dX2_newProcess_4 rfl ?_
  refine zw_getI dX2_newProcess_5 zfX2_30 rfl (xk_2 h) (by decide) ?_
  refine zw_iload_n dX2_newProcess_8 rfl ?_
  refine zw_iastore dX2_newProcess_9 (xk_3 h) (by decide) (zin_of (xl_3 h) hin) ?_
  refine zw_aload_n dX2_newProcess_10 rfl ?_
  refine zw_dup dX2_newProcess_11 rfl ?_
  refine zw_getI dX2_newProcess_12 zfX2_30 rfl (xk_2 h) (by decide) ?_
  refine zw_iconst (x := 1) dX2_newProcess_15 rfl ?_
  refine zw_iadd dX2_newProcess_16 ?_
  refine zw_putI dX2_newProcess_17 zfX2_30 rfl rfl ⟨rfl, rfl⟩ (xk_2 h) (by decide) ?_
  refine zw_aload_n dX2_newProcess_20 rfl ?_
  refine zw_getI dX2_newProcess_21 zfX2_30 rfl (xk_2 h) (by decide) ?_
  refine zw_iconst (x := 1) dX2_newProcess_24 rfl ?_
  refine zw_isub dX2_newProcess_25 ?_
  refine zw_iret dX2_newProcess_26 rfl rfl ?_
  refine ⟨?_, rfl⟩
  rw [zF_zsF, if_pos ⟨rfl, rfl, rfl⟩]
  unfold xP
  rw [zF_zsI, i32_sub1]
set_option maxHeartbeats 4000000 in
set_option maxRecDepth 100000 in
theorem c_X2_newVariable {l : Launch} {σ : zS} (h : xSh σ) (hin : vp_in (xV σ) 4) (x z : Int32) : zAM l zmX2_newVariable 0 0 0 0 [.ref 2, .int x, .int z] σ (fun v σ' => v = some (.int (xV σ)) ∧ σ' = zsF (zsI (zsI σ 6 (xV σ).toNatClampNeg x) 7 (xV σ).toNatClampNeg z) 2 6 2 (xV σ + 1)) := by
  refine zAM.of (by decide +kernel) (Nat.le_of_ble_eq_true rfl) ?_
  refine zw_aload_n dX2_newVariable_0 rfl ?_
  refine zw_getR dX2_newVariable_1 zfX2_24 rfl (xk_2 h) (by decide) (xg_2_3 h) ?_
  refine zw_aload_n dX2_newVariable_4 rfl ?_
  refine zw_getI dX2_newVariable_5 zfX2_38 rfl (xk_2 h) (by decide) ?_
  refine zw_iload_n dX2_newVariable_8 rfl ?_
  refine zw_iastore dX2_newVariable_9 (xk_6 h) (by decide) (zin_of (xl_6 h) hin) ?_
  refine zw_aload_n dX2_newVariable_10 rfl ?_
  refine zw_getR dX2_newVariable_11 zfX2_27 rfl (xk_2 h) (by decide) (xg_2_4 h) ?_
  refine zw_aload_n dX2_newVariable_14 rfl ?_
  refine zw_getI dX2_newVariable_15 zfX2_38 rfl (xk_2 h) (by decide) ?_
  refine zw_iload_n dX2_newVariable_18 rfl ?_
  refine zw_iastore dX2_newVariable_19 (xk_7 h) (by decide) (zin_of (xl_7 h) hin) ?_
  refine zw_aload_n dX2_newVariable_20 rfl ?_
  refine zw_dup dX2_newVariable_21 rfl ?_
  refine zw_getI dX2_newVariable_22 zfX2_38 rfl (xk_2 h) (by decide) ?_
  refine zw_iconst (x := 1) dX2_newVariable_25 rfl ?_
  refine zw_iadd dX2_newVariable_26 ?_
  refine zw_putI dX2_newVariable_27 zfX2_38 rfl rfl ⟨rfl, rfl⟩ (xk_2 h) (by decide) ?_
  refine zw_aload_n dX2_newVariable_30 rfl ?_
  refine zw_getI dX2_newVariable_31 zfX2_38 rfl (xk_2 h) (by decide) ?_
  refine zw_iconst (x := 1) dX2_newVariable_34 rfl ?_
  refine zw_isub dX2_newVariable_35 ?_
  refine zw_iret dX2_newVariable_36 rfl rfl ?_
  refine ⟨?_, rfl⟩
  rw [zF_zsF, if_pos ⟨rfl, rfl, rfl⟩]
  unfold xV
  rw [zF_zsI, zF_zsI, i32_sub1]
set_option maxHeartbeats 4000000 in
set_option maxRecDepth 100000 in
theorem c_X1_init {l : Launch} {σ : zS} {a : Nat} (hm : zK σ a = 1) (p n f t d : Int32) : zAM l zmX1_init 1 20 0 0 [.ref a, .int p, .int n, .int f, .int t, .int d] σ (fun v σ' => v = none ∧ σ' = zsF (zsF (zsF (zsF (zsF σ 1 0 a p) 1 1 a n) 1 2 a f) 1 3 a t) 1 4 a d) := by
  refine zAM.of (by decide +kernel) (Nat.le_of_ble_eq_true rfl) ?_
  refine zw_aload_n dX1_init_0 rfl ?_
  refine zw_objInit dX1_init_1 zoX1_3 ⟨Nat.le_of_ble_eq_true rfl, Nat.le_of_ble_eq_true rfl⟩ ?_
  refine zw_aload_n dX1_init_4 rfl ?_
  refine zw_iload_n dX1_init_5 rfl ?_
  refine zw_putIF dX1_init_6 zfX1_9 rfl ⟨rfl, rfl, rfl, by decide⟩ ⟨rfl, rfl⟩ hm (by decide) ?_
  refine zw_aload_n dX1_init_9 rfl ?_
  refine zw_iload_n dX1_init_10 rfl ?_
  refine zw_putIF dX1_init_11 zfX1_15 rfl ⟨rfl, rfl, rfl, by decide⟩ ⟨rfl, rfl⟩ hm (by decide) ?_
  refine zw_aload_n dX1_init_14 rfl ?_
  refine zw_iload_n dX1_init_15 rfl ?_
  refine zw_putIF dX1_init_16 zfX1_18 rfl ⟨rfl, rfl, rfl, by decide⟩ ⟨rfl, rfl⟩ hm (by decide) ?_
  refine zw_aload_n dX1_init_19 rfl ?_
  refine zw_iload dX1_init_20 rfl ?_
  refine zw_putIF dX1_init_22 zfX1_21 rfl ⟨rfl, rfl, rfl, by decide⟩ ⟨rfl, rfl⟩ hm (by decide) ?_
  refine zw_aload_n dX1_init_25 rfl ?_
  refine zw_iload dX1_init_26 rfl ?_
  refine zw_putIF dX1_init_28 zfX1_24 rfl ⟨rfl, rfl, rfl, by decide⟩ ⟨rfl, rfl⟩ hm (by decide) ?_
  refine zw_vret dX1_init_31 rfl ?_
  exact ⟨rfl, rfl⟩
set_option maxHeartbeats 4000000 in
set_option maxRecDepth 100000 in
theorem c_X1_setGuard {l : Launch} {σ : zS} {a : Nat} (hm : zK σ a = 1) (x y z : Int32) : zAM l zmX1_setGuard 0 0 0 0 [.ref a, .int x, .int y, .int z] σ (fun v σ' => v = some (.int (zF σ 1 5 a)) ∧ σ' = zsF (zsF (zsF σ 1 5 a x) 1 6 a y) 1 7 a z) := by
  refine zAM.of (by decide +kernel) (Nat.le_of_ble_eq_true rfl) ?_
  refine zw_aload_n dX1_setGuard_0 rfl ?_
  refine zw_getI dX1_setGuard_1 zfX1_27 rfl hm (by decide) ?_
  refine zw_istore dX1_setGuard_4 (by decide) rfl ?_
  refine zw_aload_n dX1_setGuard_6 rfl ?_
  refine zw_iload_n dX1_setGuard_7 rfl ?_
  refine zw_putI dX1_setGuard_8 zfX1_27 rfl rfl ⟨rfl, rfl⟩ hm (by decide) ?_
  refine zw_aload_n dX1_setGuard_11 rfl ?_
  refine zw_iload_n dX1_setGuard_12 rfl ?_
  refine zw_putI dX1_setGuard_13 zfX1_30 rfl rfl ⟨rfl, rfl⟩ hm (by decide) ?_
  refine zw_aload_n dX1_setGuard_16 rfl ?_
  refine zw_iload_n dX1_setGuard_17 rfl ?_
  refine zw_putI dX1_setGuard_18 zfX1_33 rfl rfl ⟨rfl, rfl⟩ hm (by decide) ?_
  refine zw_iload dX1_setGuard_21 rfl ?_
  refine zw_iret dX1_setGuard_23 rfl rfl ?_
  exact ⟨rfl, rfl⟩
set_option maxHeartbeats 4000000 in
set_option maxRecDepth 100000 in
theorem c_X1_setDeed {l : Launch} {σ : zS} {a : Nat} (hm : zK σ a = 1) (x y z g : Int32) : zAM l zmX1_setDeed 0 0 0 0 [.ref a, .int x, .int y, .int z, .int g] σ (fun v σ' => v = some (.int (zF σ 1 8 a)) ∧ σ' = zsF (zsF (zsF (zsF σ 1 8 a x) 1 9 a y) 1 10 a z) 1 11 a g) := by
  refine zAM.of (by decide +kernel) (Nat.le_of_ble_eq_true rfl) ?_
  refine zw_aload_n dX1_setDeed_0 rfl ?_
  refine zw_getI dX1_setDeed_1 zfX1_36 rfl hm (by decide) ?_
  refine zw_istore dX1_setDeed_4 (by decide) rfl ?_
  refine zw_aload_n dX1_setDeed_6 rfl ?_
  refine zw_iload_n dX1_setDeed_7 rfl ?_
  refine zw_putI dX1_setDeed_8 zfX1_36 rfl rfl ⟨rfl, rfl⟩ hm (by decide) ?_
  refine zw_aload_n dX1_setDeed_11 rfl ?_
  refine zw_iload_n dX1_setDeed_12 rfl ?_
  refine zw_putI dX1_setDeed_13 zfX1_39 rfl rfl ⟨rfl, rfl⟩ hm (by decide) ?_
  refine zw_aload_n dX1_setDeed_16 rfl ?_
  refine zw_iload_n dX1_setDeed_17 rfl ?_
  refine zw_putI dX1_setDeed_18 zfX1_42 rfl rfl ⟨rfl, rfl⟩ hm (by decide) ?_
  refine zw_aload_n dX1_setDeed_21 rfl ?_
  refine zw_iload dX1_setDeed_22 rfl ?_
  refine zw_putI dX1_setDeed_24 zfX1_45 rfl rfl ⟨rfl, rfl⟩ hm (by decide) ?_
  refine zw_iload dX1_setDeed_27 rfl ?_
  refine zw_iret dX1_setDeed_29 rfl rfl ?_
  exact ⟨rfl, rfl⟩
set_option maxHeartbeats 4000000 in
set_option maxRecDepth 100000 in
theorem c_X1_guardAllows {l : Launch} {σ : zS} {a : Nat} (hm : zK σ a = 1) (k : Int32) : zAM l zmX1_guardAllows 1 21 0 0 [.ref a, .int k] σ (fun v σ' => v = some (.int (zb (xGA σ a k))) ∧ σ' = σ) := by
  refine zAM.of (by decide +kernel) (Nat.le_of_ble_eq_true rfl) ?_
  refine zw_aload_n dX1_guardAllows_0 rfl ?_
  refine zw_getI dX1_guardAllows_1 zfX1_27 rfl hm (by decide) ?_
  generalize hgs : zF σ 1 5 a = gs
  rcases zsplit4 gs with rfl | rfl | rfl | rfl | hw
  · refine zw_tableIn (off := 32) (tgt := 36) dX1_guardAllows_4 (by decide) (by decide) (by decide) (by decide) ?_
    refine zw_iload_n dX1_guardAllows_36 rfl ?_
    refine zw_aload_n dX1_guardAllows_37 rfl ?_
    refine zw_getI dX1_guardAllows_38 zfX1_30 rfl hm (by decide) ?_
    refine zw_callS (y' := zmX5_valueIn) dX1_guardAllows_41 zlX1_60 zmX5_valueIn_ok (c_X5_valueIn _ _) rfl rfl (Nat.le_of_ble_eq_true rfl) ⟨Nat.le_of_ble_eq_true rfl, Nat.le_of_ble_eq_true rfl⟩ ⟨Nat.le_of_ble_eq_true rfl, Nat.le_of_ble_eq_true rfl⟩ ?_
    intro v41 s41 q41
    obtain ⟨rfl, rfl⟩ := q41
    refine zw_aload_n dX1_guardAllows_44 rfl ?_
    refine zw_getI dX1_guardAllows_45 zfX1_33 rfl hm (by decide) ?_
    refine zw_icmpne (tgt := 55) dX1_guardAllows_48 (by decide) (fun c48 => ?_) (fun c48 => ?_)
    · refine zw_iconst (x := 0) dX1_guardAllows_55 rfl ?_
      refine zw_iret dX1_guardAllows_56 rfl rfl ?_
      refine ⟨?_, rfl⟩
      (try have n1 : gs ≠ 1 := fun e => by subst e; revert hw; decide)
      (try have n2 : gs ≠ 2 := fun e => by subst e; revert hw; decide)
      (try have n3 : gs ≠ 3 := fun e => by subst e; revert hw; decide)
      (try have n4 : gs ≠ 4 := fun e => by subst e; revert hw; decide)
      unfold xGA
      rw [hgs]
      simp_all [zb, Int32.not_lt, Int32.not_le]
    · refine zw_iconst (x := 1) dX1_guardAllows_51 rfl ?_
      refine zw_goto (tgt := 56) dX1_guardAllows_52 (by decide) ?_
      refine zw_iret dX1_guardAllows_56 rfl rfl ?_
      refine ⟨?_, rfl⟩
      (try have n1 : gs ≠ 1 := fun e => by subst e; revert hw; decide)
      (try have n2 : gs ≠ 2 := fun e => by subst e; revert hw; decide)
      (try have n3 : gs ≠ 3 := fun e => by subst e; revert hw; decide)
      (try have n4 : gs ≠ 4 := fun e => by subst e; revert hw; decide)
      unfold xGA
      rw [hgs]
      simp_all [zb, Int32.not_lt, Int32.not_le]
  · refine zw_tableIn (off := 53) (tgt := 57) dX1_guardAllows_4 (by decide) (by decide) (by decide) (by decide) ?_
    refine zw_iload_n dX1_guardAllows_57 rfl ?_
    refine zw_aload_n dX1_guardAllows_58 rfl ?_
    refine zw_getI dX1_guardAllows_59 zfX1_30 rfl hm (by decide) ?_
    refine zw_callS (y' := zmX5_valueIn) dX1_guardAllows_62 zlX1_60 zmX5_valueIn_ok (c_X5_valueIn _ _) rfl rfl (Nat.le_of_ble_eq_true rfl) ⟨Nat.le_of_ble_eq_true rfl, Nat.le_of_ble_eq_true rfl⟩ ⟨Nat.le_of_ble_eq_true rfl, Nat.le_of_ble_eq_true rfl⟩ ?_
    intro v62 s62 q62
    obtain ⟨rfl, rfl⟩ := q62
    refine zw_aload_n dX1_guardAllows_65 rfl ?_
    refine zw_getI dX1_guardAllows_66 zfX1_33 rfl hm (by decide) ?_
    refine zw_icmpeq (tgt := 76) dX1_guardAllows_69 (by decide) (fun c69 => ?_) (fun c69 => ?_)
    · refine zw_iconst (x := 0) dX1_guardAllows_76 rfl ?_
      refine zw_iret dX1_guardAllows_77 rfl rfl ?_
      refine ⟨?_, rfl⟩
      (try have n1 : gs ≠ 1 := fun e => by subst e; revert hw; decide)
      (try have n2 : gs ≠ 2 := fun e => by subst e; revert hw; decide)
      (try have n3 : gs ≠ 3 := fun e => by subst e; revert hw; decide)
      (try have n4 : gs ≠ 4 := fun e => by subst e; revert hw; decide)
      unfold xGA
      rw [hgs]
      simp_all [zb, Int32.not_lt, Int32.not_le]
    · refine zw_iconst (x := 1) dX1_guardAllows_72 rfl ?_
      refine zw_goto (tgt := 77) dX1_guardAllows_73 (by decide) ?_
      refine zw_iret dX1_guardAllows_77 rfl rfl ?_
      refine ⟨?_, rfl⟩
      (try have n1 : gs ≠ 1 := fun e => by subst e; revert hw; decide)
      (try have n2 : gs ≠ 2 := fun e => by subst e; revert hw; decide)
      (try have n3 : gs ≠ 3 := fun e => by subst e; revert hw; decide)
      (try have n4 : gs ≠ 4 := fun e => by subst e; revert hw; decide)
      unfold xGA
      rw [hgs]
      simp_all [zb, Int32.not_lt, Int32.not_le]
  · refine zw_tableIn (off := 74) (tgt := 78) dX1_guardAllows_4 (by decide) (by decide) (by decide) (by decide) ?_
    refine zw_iload_n dX1_guardAllows_78 rfl ?_
    refine zw_aload_n dX1_guardAllows_79 rfl ?_
    refine zw_getI dX1_guardAllows_80 zfX1_30 rfl hm (by decide) ?_
    refine zw_callS (y' := zmX5_valueIn) dX1_guardAllows_83 zlX1_60 zmX5_valueIn_ok (c_X5_valueIn _ _) rfl rfl (Nat.le_of_ble_eq_true rfl) ⟨Nat.le_of_ble_eq_true rfl, Nat.le_of_ble_eq_true rfl⟩ ⟨Nat.le_of_ble_eq_true rfl, Nat.le_of_ble_eq_true rfl⟩ ?_
    intro v83 s83 q83
    obtain ⟨rfl, rfl⟩ := q83
    refine zw_aload_n dX1_guardAllows_86 rfl ?_
    refine zw_getI dX1_guardAllows_87 zfX1_33 rfl hm (by decide) ?_
    refine zw_icmpge (tgt := 97) dX1_guardAllows_90 (by decide) (fun c90 => ?_) (fun c90 => ?_)
    · refine zw_iconst (x := 0) dX1_guardAllows_97 rfl ?_
      refine zw_iret dX1_guardAllows_98 rfl rfl ?_
      refine ⟨?_, rfl⟩
      (try have n1 : gs ≠ 1 := fun e => by subst e; revert hw; decide)
      (try have n2 : gs ≠ 2 := fun e => by subst e; revert hw; decide)
      (try have n3 : gs ≠ 3 := fun e => by subst e; revert hw; decide)
      (try have n4 : gs ≠ 4 := fun e => by subst e; revert hw; decide)
      unfold xGA
      rw [hgs]
      simp_all [zb, Int32.not_lt, Int32.not_le]
    · refine zw_iconst (x := 1) dX1_guardAllows_93 rfl ?_
      refine zw_goto (tgt := 98) dX1_guardAllows_94 (by decide) ?_
      refine zw_iret dX1_guardAllows_98 rfl rfl ?_
      refine ⟨?_, rfl⟩
      (try have n1 : gs ≠ 1 := fun e => by subst e; revert hw; decide)
      (try have n2 : gs ≠ 2 := fun e => by subst e; revert hw; decide)
      (try have n3 : gs ≠ 3 := fun e => by subst e; revert hw; decide)
      (try have n4 : gs ≠ 4 := fun e => by subst e; revert hw; decide)
      unfold xGA
      rw [hgs]
      simp_all [zb, Int32.not_lt, Int32.not_le]
  · refine zw_tableIn (off := 95) (tgt := 99) dX1_guardAllows_4 (by decide) (by decide) (by decide) (by decide) ?_
    refine zw_iload_n dX1_guardAllows_99 rfl ?_
    refine zw_aload_n dX1_guardAllows_100 rfl ?_
    refine zw_getI dX1_guardAllows_101 zfX1_30 rfl hm (by decide) ?_
    refine zw_callS (y' := zmX5_valueIn) dX1_guardAllows_104 zlX1_60 zmX5_valueIn_ok (c_X5_valueIn _ _) rfl rfl (Nat.le_of_ble_eq_true rfl) ⟨Nat.le_of_ble_eq_true rfl, Nat.le_of_ble_eq_true rfl⟩ ⟨Nat.le_of_ble_eq_true rfl, Nat.le_of_ble_eq_true rfl⟩ ?_
    intro v104 s104 q104
    obtain ⟨rfl, rfl⟩ := q104
    refine zw_aload_n dX1_guardAllows_107 rfl ?_
    refine zw_getI dX1_guardAllows_108 zfX1_33 rfl hm (by decide) ?_
    refine zw_icmple (tgt := 118) dX1_guardAllows_111 (by decide) (fun c111 => ?_) (fun c111 => ?_)
    · refine zw_iconst (x := 0) dX1_guardAllows_118 rfl ?_
      refine zw_iret dX1_guardAllows_119 rfl rfl ?_
      refine ⟨?_, rfl⟩
      (try have n1 : gs ≠ 1 := fun e => by subst e; revert hw; decide)
      (try have n2 : gs ≠ 2 := fun e => by subst e; revert hw; decide)
      (try have n3 : gs ≠ 3 := fun e => by subst e; revert hw; decide)
      (try have n4 : gs ≠ 4 := fun e => by subst e; revert hw; decide)
      unfold xGA
      rw [hgs]
      simp_all [zb, Int32.not_lt, Int32.not_le]
    · refine zw_iconst (x := 1) dX1_guardAllows_114 rfl ?_
      refine zw_goto (tgt := 119) dX1_guardAllows_115 (by decide) ?_
      refine zw_iret dX1_guardAllows_119 rfl rfl ?_
      refine ⟨?_, rfl⟩
      (try have n1 : gs ≠ 1 := fun e => by subst e; revert hw; decide)
      (try have n2 : gs ≠ 2 := fun e => by subst e; revert hw; decide)
      (try have n3 : gs ≠ 3 := fun e => by subst e; revert hw; decide)
      (try have n4 : gs ≠ 4 := fun e => by subst e; revert hw; decide)
      unfold xGA
      rw [hgs]
      simp_all [zb, Int32.not_lt, Int32.not_le]
  · refine zw_tableOut (tgt := 120) dX1_guardAllows_4 hw (by decide) ?_
    refine zw_iconst (x := 1) dX1_guardAllows_120 rfl ?_
    refine zw_iret dX1_guardAllows_121 rfl rfl ?_
    refine ⟨?_, rfl⟩
    (try have n1 : gs ≠ 1 := fun e => by subst e; revert hw; decide)
    (try have n2 : gs ≠ 2 := fun e => by subst e; revert hw; decide)
    (try have n3 : gs ≠ 3 := fun e => by subst e; revert hw; decide)
    (try have n4 : gs ≠ 4 := fun e => by subst e; revert hw; decide)
    unfold xGA
    rw [hgs]
    simp_all [zb, Int32.not_lt, Int32.not_le]
set_option maxHeartbeats 4000000 in
set_option maxRecDepth 100000 in
theorem c_X1_afterDeed {l : Launch} {σ : zS} {a : Nat} (hm : zK σ a = 1) (k : Int32) : zAM l zmX1_afterDeed 1 23 0 0 [.ref a, .int k] σ (fun v σ' => v = some (.int (xAD σ a k)) ∧ σ' = σ) := by
  refine zAM.of (by decide +kernel) (Nat.le_of_ble_eq_true rfl) ?_
  refine zw_aload_n dX1_afterDeed_0 rfl ?_
  refine zw_getI dX1_afterDeed_1 zfX1_36 rfl hm (by decide) ?_
  refine zw_ifne (tgt := 9) dX1_afterDeed_4 (by decide) (fun c4 => ?_) (fun c4 => ?_)
  · refine zw_aload_n dX1_afterDeed_9 rfl ?_
    refine zw_getI dX1_afterDeed_10 zfX1_36 rfl hm (by decide) ?_
    refine zw_iconst (x := 1) dX1_afterDeed_13 rfl ?_
    refine zw_icmpne (tgt := 24) dX1_afterDeed_14 (by decide) (fun c14 => ?_) (fun c14 => ?_)
    · refine zw_iload_n dX1_afterDeed_24 rfl ?_
      refine zw_aload_n dX1_afterDeed_25 rfl ?_
      refine zw_getI dX1_afterDeed_26 zfX1_39 rfl hm (by decide) ?_
      refine zw_callS (y' := zmX5_valueIn) dX1_afterDeed_29 zlX1_60 zmX5_valueIn_ok (c_X5_valueIn _ _) rfl rfl (Nat.le_of_ble_eq_true rfl) ⟨Nat.le_of_ble_eq_true rfl, Nat.le_of_ble_eq_true rfl⟩ ⟨Nat.le_of_ble_eq_true rfl, Nat.le_of_ble_eq_true rfl⟩ ?_
      intro v29 s29 q29
      obtain ⟨rfl, rfl⟩ := q29
      refine zw_aload_n dX1_afterDeed_32 rfl ?_
      refine zw_getI dX1_afterDeed_33 zfX1_42 rfl hm (by decide) ?_
      refine zw_iadd dX1_afterDeed_36 ?_
      refine zw_istore_n dX1_afterDeed_37 (by decide) rfl ?_
      refine zw_iload_n dX1_afterDeed_38 rfl ?_
      refine zw_iconst (x := 0) dX1_afterDeed_39 rfl ?_
      refine zw_aload_n dX1_afterDeed_40 rfl ?_
      refine zw_getI dX1_afterDeed_41 zfX1_45 rfl hm (by decide) ?_
      refine zw_callS (y' := zmX5_isBetween) dX1_afterDeed_44 zlX1_63 zmX5_isBetween_ok (c_X5_isBetween _ _ _) rfl rfl (Nat.le_of_ble_eq_true rfl) ⟨Nat.le_of_ble_eq_true rfl, Nat.le_of_ble_eq_true rfl⟩ ⟨Nat.le_of_ble_eq_true rfl, Nat.le_of_ble_eq_true rfl⟩ ?_
      intro v44 s44 q44
      obtain ⟨rfl, rfl⟩ := q44
      refine zw_ifeq (tgt := 62) dX1_afterDeed_47 (by decide) (fun c47 => ?_) (fun c47 => ?_)
      · refine zw_iconst (x := -1) dX1_afterDeed_62 rfl ?_
        refine zw_iret dX1_afterDeed_63 rfl rfl ?_
        refine ⟨?_, rfl⟩
        unfold xAD
        first
          | (have cc := of_decide_eq_false (zb_0.mp c47); simp [c4, c14, cc])
          | (have cc := of_decide_eq_true (zb_1.mp c47); simp [c4, c14, cc])
      · refine zw_iload_n dX1_afterDeed_50 rfl ?_
        refine zw_aload_n dX1_afterDeed_51 rfl ?_
        refine zw_getI dX1_afterDeed_52 zfX1_39 rfl hm (by decide) ?_
        refine zw_iload_n dX1_afterDeed_55 rfl ?_
        refine zw_callS (y' := zmX5_withValue) dX1_afterDeed_56 zlX1_67 zmX5_withValue_ok (c_X5_withValue _ _ _) rfl rfl (Nat.le_of_ble_eq_true rfl) ⟨Nat.le_of_ble_eq_true rfl, Nat.le_of_ble_eq_true rfl⟩ ⟨Nat.le_of_ble_eq_true rfl, Nat.le_of_ble_eq_true rfl⟩ ?_
        intro v56 s56 q56
        obtain ⟨rfl, rfl⟩ := q56
        refine zw_goto (tgt := 63) dX1_afterDeed_59 (by decide) ?_
        refine zw_iret dX1_afterDeed_63 rfl rfl ?_
        refine ⟨?_, rfl⟩
        unfold xAD
        first
          | (have cc := of_decide_eq_false (zb_0.mp c47); simp [c4, c14, cc])
          | (have cc := of_decide_eq_true (zb_1.mp c47); simp [c4, c14, cc])
    · refine zw_aload_n dX1_afterDeed_17 rfl ?_
      refine zw_getI dX1_afterDeed_18 zfX1_42 rfl hm (by decide) ?_
      refine zw_goto (tgt := 37) dX1_afterDeed_21 (by decide) ?_
      refine zw_istore_n dX1_afterDeed_37 (by decide) rfl ?_
      refine zw_iload_n dX1_afterDeed_38 rfl ?_
      refine zw_iconst (x := 0) dX1_afterDeed_39 rfl ?_
      refine zw_aload_n dX1_afterDeed_40 rfl ?_
      refine zw_getI dX1_afterDeed_41 zfX1_45 rfl hm (by decide) ?_
      refine zw_callS (y' := zmX5_isBetween) dX1_afterDeed_44 zlX1_63 zmX5_isBetween_ok (c_X5_isBetween _ _ _) rfl rfl (Nat.le_of_ble_eq_true rfl) ⟨Nat.le_of_ble_eq_true rfl, Nat.le_of_ble_eq_true rfl⟩ ⟨Nat.le_of_ble_eq_true rfl, Nat.le_of_ble_eq_true rfl⟩ ?_
      intro v44 s44 q44
      obtain ⟨rfl, rfl⟩ := q44
      refine zw_ifeq (tgt := 62) dX1_afterDeed_47 (by decide) (fun c47 => ?_) (fun c47 => ?_)
      · refine zw_iconst (x := -1) dX1_afterDeed_62 rfl ?_
        refine zw_iret dX1_afterDeed_63 rfl rfl ?_
        refine ⟨?_, rfl⟩
        unfold xAD
        first
          | (have cc := of_decide_eq_false (zb_0.mp c47); simp [c4, c14, cc])
          | (have cc := of_decide_eq_true (zb_1.mp c47); simp [c4, c14, cc])
      · refine zw_iload_n dX1_afterDeed_50 rfl ?_
        refine zw_aload_n dX1_afterDeed_51 rfl ?_
        refine zw_getI dX1_afterDeed_52 zfX1_39 rfl hm (by decide) ?_
        refine zw_iload_n dX1_afterDeed_55 rfl ?_
        refine zw_callS (y' := zmX5_withValue) dX1_afterDeed_56 zlX1_67 zmX5_withValue_ok (c_X5_withValue _ _ _) rfl rfl (Nat.le_of_ble_eq_true rfl) ⟨Nat.le_of_ble_eq_true rfl, Nat.le_of_ble_eq_true rfl⟩ ⟨Nat.le_of_ble_eq_true rfl, Nat.le_of_ble_eq_true rfl⟩ ?_
        intro v56 s56 q56
        obtain ⟨rfl, rfl⟩ := q56
        refine zw_goto (tgt := 63) dX1_afterDeed_59 (by decide) ?_
        refine zw_iret dX1_afterDeed_63 rfl rfl ?_
        refine ⟨?_, rfl⟩
        unfold xAD
        first
          | (have cc := of_decide_eq_false (zb_0.mp c47); simp [c4, c14, cc])
          | (have cc := of_decide_eq_true (zb_1.mp c47); simp [c4, c14, cc])
  · refine zw_iload_n dX1_afterDeed_7 rfl ?_
    refine zw_iret dX1_afterDeed_8 rfl rfl ?_
    refine ⟨?_, rfl⟩
    unfold xAD
    simp_all [zb]
set_option maxHeartbeats 4000000 in
set_option maxRecDepth 100000 in
theorem c_X1_afterGoing {l : Launch} {σ : zS} {a : Nat} (hm : zK σ a = 1) (k : Int32) : zAM l zmX1_afterGoing 1 23 0 0 [.ref a, .int k] σ (fun v σ' => v = some (.int (xAG σ a k)) ∧ σ' = σ) := by
  refine zAM.of (by decide +kernel) (Nat.le_of_ble_eq_true rfl) ?_
  refine zw_iload_n dX1_afterGoing_0 rfl ?_
  refine zw_aload_n dX1_afterGoing_1 rfl ?_
  refine zw_getI dX1_afterGoing_2 zfX1_9 rfl hm (by decide) ?_
  refine zw_aload_n dX1_afterGoing_5 rfl ?_
  refine zw_getI dX1_afterGoing_6 zfX1_21 rfl hm (by decide) ?_
  refine zw_callS (y' := zmX5_withLocation) dX1_afterGoing_9 zlX1_71 zmX5_withLocation_ok (c_X5_withLocation _ _ _) rfl rfl (Nat.le_of_ble_eq_true rfl) ⟨Nat.le_of_ble_eq_true rfl, Nat.le_of_ble_eq_true rfl⟩ ⟨Nat.le_of_ble_eq_true rfl, Nat.le_of_ble_eq_true rfl⟩ ?_
  intro v9 s9 q9
  obtain ⟨rfl, rfl⟩ := q9
  refine zw_iret dX1_afterGoing_12 rfl rfl ?_
  exact ⟨rfl, rfl⟩
set_option maxHeartbeats 4000000 in
set_option maxRecDepth 100000 in
theorem c_X1_isOpenIn {l : Launch} {σ : zS} {a : Nat} (hm : zK σ a = 1) (k : Int32) : zAM l zmX1_isOpenIn 2 45 0 0 [.ref a, .int k] σ (fun v σ' => v = some (.int (zb (xOpen σ a k))) ∧ σ' = σ) := by
  refine zAM.of (by decide +kernel) (Nat.le_of_ble_eq_true rfl) ?_
  refine zw_iload_n dX1_isOpenIn_0 rfl ?_
  refine zw_aload_n dX1_isOpenIn_1 rfl ?_
  refine zw_getI dX1_isOpenIn_2 zfX1_9 rfl hm (by decide) ?_
  refine zw_callS (y' := zmX5_locationIn) dX1_isOpenIn_5 zlX1_48 zmX5_locationIn_ok (c_X5_locationIn _ _) rfl rfl (Nat.le_of_ble_eq_true rfl) ⟨Nat.le_of_ble_eq_true rfl, Nat.le_of_ble_eq_true rfl⟩ ⟨Nat.le_of_ble_eq_true rfl, Nat.le_of_ble_eq_true rfl⟩ ?_
  intro v5 s5 q5
  obtain ⟨rfl, rfl⟩ := q5
  refine zw_aload_n dX1_isOpenIn_8 rfl ?_
  refine zw_getI dX1_isOpenIn_9 zfX1_18 rfl hm (by decide) ?_
  refine zw_icmpne (tgt := 35) dX1_isOpenIn_12 (by decide) (fun c12 => ?_) (fun c12 => ?_)
  · refine zw_iconst (x := 0) dX1_isOpenIn_35 rfl ?_
    refine zw_iret dX1_isOpenIn_36 rfl rfl ?_
    refine ⟨?_, rfl⟩
    unfold xOpen
    simp_all [zb, Int32.not_lt, Int32.not_le]
  · refine zw_aload_n dX1_isOpenIn_15 rfl ?_
    refine zw_iload_n dX1_isOpenIn_16 rfl ?_
    refine zw_callV (y' := zmX1_guardAllows) dX1_isOpenIn_17 zlX1_52 zmX1_guardAllows_ok hm (by decide) rfl (c_X1_guardAllows hm _) rfl rfl (Nat.le_of_ble_eq_true rfl) ⟨Nat.le_of_ble_eq_true rfl, Nat.le_of_ble_eq_true rfl⟩ ⟨Nat.le_of_ble_eq_true rfl, Nat.le_of_ble_eq_true rfl⟩ ?_
    intro v17 s17 q17
    obtain ⟨rfl, rfl⟩ := q17
    refine zw_ifeq (tgt := 35) dX1_isOpenIn_20 (by decide) (fun c20 => ?_) (fun c20 => ?_)
    · refine zw_iconst (x := 0) dX1_isOpenIn_35 rfl ?_
      refine zw_iret dX1_isOpenIn_36 rfl rfl ?_
      refine ⟨?_, rfl⟩
      unfold xOpen
      simp_all [zb, Int32.not_lt, Int32.not_le]
    · refine zw_aload_n dX1_isOpenIn_23 rfl ?_
      refine zw_iload_n dX1_isOpenIn_24 rfl ?_
      refine zw_callV (y' := zmX1_afterDeed) dX1_isOpenIn_25 zlX1_56 zmX1_afterDeed_ok hm (by decide) rfl (c_X1_afterDeed hm _) rfl rfl (Nat.le_of_ble_eq_true rfl) ⟨Nat.le_of_ble_eq_true rfl, Nat.le_of_ble_eq_true rfl⟩ ⟨Nat.le_of_ble_eq_true rfl, Nat.le_of_ble_eq_true rfl⟩ ?_
      intro v25 s25 q25
      obtain ⟨rfl, rfl⟩ := q25
      refine zw_iflt (tgt := 35) dX1_isOpenIn_28 (by decide) (fun c28 => ?_) (fun c28 => ?_)
      · refine zw_iconst (x := 0) dX1_isOpenIn_35 rfl ?_
        refine zw_iret dX1_isOpenIn_36 rfl rfl ?_
        refine ⟨?_, rfl⟩
        unfold xOpen
        simp_all [zb, Int32.not_lt, Int32.not_le]
      · refine zw_iconst (x := 1) dX1_isOpenIn_31 rfl ?_
        refine zw_goto (tgt := 36) dX1_isOpenIn_32 (by decide) ?_
        refine zw_iret dX1_isOpenIn_36 rfl rfl ?_
        refine ⟨?_, rfl⟩
        unfold xOpen
        simp_all [zb, Int32.not_lt, Int32.not_le]
end
section
/-! the state space's short methods -/
theorem zsplit3 (x : Int32) : x = 0 ∨ x = 1 ∨ x = 2 ∨ x = 3 ∨ (x.toInt < 0 ∨ 3 < x.toInt) := by
  have f : ∀ k : Int32, x.toInt = k.toInt → x = k := fun k h => Int32.toInt_inj.mp h
  have h0 := f 0
  have h1 := f 1
  have h2 := f 2
  have h3 := f 3
  rw [zt_0] at h0
  rw [zt_1] at h1
  rw [zt_2] at h2
  rw [zt_3] at h3
  by_cases a0 : x.toInt = 0
  · exact Or.inl (h0 a0)
  by_cases a1 : x.toInt = 1
  · exact Or.inr (Or.inl (h1 a1))
  by_cases a2 : x.toInt = 2
  · exact Or.inr (Or.inr (Or.inl (h2 a2)))
  by_cases a3 : x.toInt = 3
  · exact Or.inr (Or.inr (Or.inr (Or.inl (h3 a3))))
  · exact Or.inr (Or.inr (Or.inr (Or.inr (by omega))))
def xSr (k s : Int32) : Int32 := (k.toUInt32 >>> (s.toUInt32 &&& Int32.toUInt32 31)).toInt32
/-- a part of a packed step -/
def xPart (k w : Int32) : Int32 := if w = 0 then k &&& 511 else if w = 1 then xSr k 9 &&& 7 else if w = 2 then xSr k 12 &&& 15 else if w = 3 then (xSr k 16 &&& 7) - 1 else (xSr k 19 &&& 31) - 1
/-- the takers of a packed step -/
def xTk (k : Int32) : Int32 := (1 <<< (xPart k 1 &&& 31)) ||| (if 0 ≤ xPart k 3 then 1 <<< (xPart k 3 &&& 31) else 0)
/-- the state n laid: key, depth, parent, the parent's step, its slot, the count -/
def xNew (σ : zS) (k : Int32) (t p : Nat) (d : Int32) (n : Nat) : zS := zsF (zsI (zsI (zsI (zsI (zsI σ 9 n k) 10 n d) 11 n (nI p)) 12 n (zF σ 3 9 8 - zI σ 14 p)) 15 t (nI n)) 3 8 8 (nI (n + 1))
set_option maxHeartbeats 4000000 in
set_option maxRecDepth 100000 in
theorem c_X3_isExplored {l : Launch} {σ : zS} (h : xSh σ) : zAM l zmX3_isExplored 0 0 0 0 [.ref 8] σ (fun v σ' => v = some (.int (zb (decide (0 < xS σ)))) ∧ σ' = σ) := by
  refine zAM.of (by decide +kernel) (Nat.le_of_ble_eq_true rfl) ?_
  refine zw_aload_n dX3_isExplored_0 rfl ?_
  refine zw_getI dX3_isExplored_1 zfX3_36 rfl (xk_8 h) (by decide) ?_
  refine zw_ifle (tgt := 11) dX3_isExplored_4 (by decide) (fun c4 => ?_) (fun c4 => ?_)
  · refine zw_iconst (x := 0) dX3_isExplored_11 rfl ?_
    refine zw_iret dX3_isExplored_12 rfl rfl ?_
    unfold xS
    refine ⟨?_, rfl⟩
    first | rw [zb_t (by simp only [Int32.lt_iff_toInt_lt, Int32.le_iff_toInt_le, vp_in_iff, zt_0, zt_1, zt_2, zt_3, zt_4, zt_5, zt_6, zt_7, zt_8, zt_9, zt_10, zt_11, zt_12, zt_13, zt_14, zt_15, zt_16, zt_17, zt_18, zt_19, zt_20, zt_21, zt_22, zt_23, zt_24, zt_25, zt_26, zt_27, zt_28, zt_29, zt_30, zt_31, zt_63, zt_255, zt_400, zt_401, zt_397, zt_511, zt_512, zt_1024, zt_1023, zt_2048, zt_m1, zt_m2, zt_m9] at *; omega)] | rw [zb_f (by simp only [Int32.lt_iff_toInt_lt, Int32.le_iff_toInt_le, vp_in_iff, zt_0, zt_1, zt_2, zt_3, zt_4, zt_5, zt_6, zt_7, zt_8, zt_9, zt_10, zt_11, zt_12, zt_13, zt_14, zt_15, zt_16, zt_17, zt_18, zt_19, zt_20, zt_21, zt_22, zt_23, zt_24, zt_25, zt_26, zt_27, zt_28, zt_29, zt_30, zt_31, zt_63, zt_255, zt_400, zt_401, zt_397, zt_511, zt_512, zt_1024, zt_1023, zt_2048, zt_m1, zt_m2, zt_m9] at *; omega)]
  · refine zw_iconst (x := 1) dX3_isExplored_7 rfl ?_
    refine zw_goto (tgt := 12) dX3_isExplored_8 (by decide) ?_
    refine zw_iret dX3_isExplored_12 rfl rfl ?_
    unfold xS
    refine ⟨?_, rfl⟩
    first | rw [zb_t (by simp only [Int32.lt_iff_toInt_lt, Int32.le_iff_toInt_le, vp_in_iff, zt_0, zt_1, zt_2, zt_3, zt_4, zt_5, zt_6, zt_7, zt_8, zt_9, zt_10, zt_11, zt_12, zt_13, zt_14, zt_15, zt_16, zt_17, zt_18, zt_19, zt_20, zt_21, zt_22, zt_23, zt_24, zt_25, zt_26, zt_27, zt_28, zt_29, zt_30, zt_31, zt_63, zt_255, zt_400, zt_401, zt_397, zt_511, zt_512, zt_1024, zt_1023, zt_2048, zt_m1, zt_m2, zt_m9] at *; omega)] | rw [zb_f (by simp only [Int32.lt_iff_toInt_lt, Int32.le_iff_toInt_le, vp_in_iff, zt_0, zt_1, zt_2, zt_3, zt_4, zt_5, zt_6, zt_7, zt_8, zt_9, zt_10, zt_11, zt_12, zt_13, zt_14, zt_15, zt_16, zt_17, zt_18, zt_19, zt_20, zt_21, zt_22, zt_23, zt_24, zt_25, zt_26, zt_27, zt_28, zt_29, zt_30, zt_31, zt_63, zt_255, zt_400, zt_401, zt_397, zt_511, zt_512, zt_1024, zt_1023, zt_2048, zt_m1, zt_m2, zt_m9] at *; omega)]
set_option maxHeartbeats 4000000 in
set_option maxRecDepth 100000 in
theorem c_X3_hasState {l : Launch} {σ : zS} (h : xSh σ) (p : Int32) : zAM l zmX3_hasState 0 0 0 0 [.ref 8, .int p] σ (fun v σ' => v = some (.int (zb (decide (0 ≤ p ∧ p < xS σ)))) ∧ σ' = σ) := by
  refine zAM.of (by decide +kernel) (Nat.le_of_ble_eq_true rfl) ?_
  refine zw_iload_n dX3_hasState_0 rfl ?_
  refine zw_iflt (tgt := 16) dX3_hasState_1 (by decide) (fun c1 => ?_) (fun c1 => ?_)
  · refine zw_iconst (x := 0) dX3_hasState_16 rfl ?_
    refine zw_iret dX3_hasState_17 rfl rfl ?_
    unfold xS
    refine ⟨?_, rfl⟩
    first | rw [zb_t (by simp only [Int32.lt_iff_toInt_lt, Int32.le_iff_toInt_le, vp_in_iff, zt_0, zt_1, zt_2, zt_3, zt_4, zt_5, zt_6, zt_7, zt_8, zt_9, zt_10, zt_11, zt_12, zt_13, zt_14, zt_15, zt_16, zt_17, zt_18, zt_19, zt_20, zt_21, zt_22, zt_23, zt_24, zt_25, zt_26, zt_27, zt_28, zt_29, zt_30, zt_31, zt_63, zt_255, zt_400, zt_401, zt_397, zt_511, zt_512, zt_1024, zt_1023, zt_2048, zt_m1, zt_m2, zt_m9] at *; omega)] | rw [zb_f (by simp only [Int32.lt_iff_toInt_lt, Int32.le_iff_toInt_le, vp_in_iff, zt_0, zt_1, zt_2, zt_3, zt_4, zt_5, zt_6, zt_7, zt_8, zt_9, zt_10, zt_11, zt_12, zt_13, zt_14, zt_15, zt_16, zt_17, zt_18, zt_19, zt_20, zt_21, zt_22, zt_23, zt_24, zt_25, zt_26, zt_27, zt_28, zt_29, zt_30, zt_31, zt_63, zt_255, zt_400, zt_401, zt_397, zt_511, zt_512, zt_1024, zt_1023, zt_2048, zt_m1, zt_m2, zt_m9] at *; omega)]
  · refine zw_iload_n dX3_hasState_4 rfl ?_
    refine zw_aload_n dX3_hasState_5 rfl ?_
    refine zw_getI dX3_hasState_6 zfX3_36 rfl (xk_8 h) (by decide) ?_
    refine zw_icmpge (tgt := 16) dX3_hasState_9 (by decide) (fun c9 => ?_) (fun c9 => ?_)
    · refine zw_iconst (x := 0) dX3_hasState_16 rfl ?_
      refine zw_iret dX3_hasState_17 rfl rfl ?_
      unfold xS
      refine ⟨?_, rfl⟩
      first | rw [zb_t (by simp only [Int32.lt_iff_toInt_lt, Int32.le_iff_toInt_le, vp_in_iff, zt_0, zt_1, zt_2, zt_3, zt_4, zt_5, zt_6, zt_7, zt_8, zt_9, zt_10, zt_11, zt_12, zt_13, zt_14, zt_15, zt_16, zt_17, zt_18, zt_19, zt_20, zt_21, zt_22, zt_23, zt_24, zt_25, zt_26, zt_27, zt_28, zt_29, zt_30, zt_31, zt_63, zt_255, zt_400, zt_401, zt_397, zt_511, zt_512, zt_1024, zt_1023, zt_2048, zt_m1, zt_m2, zt_m9] at *; omega)] | rw [zb_f (by simp only [Int32.lt_iff_toInt_lt, Int32.le_iff_toInt_le, vp_in_iff, zt_0, zt_1, zt_2, zt_3, zt_4, zt_5, zt_6, zt_7, zt_8, zt_9, zt_10, zt_11, zt_12, zt_13, zt_14, zt_15, zt_16, zt_17, zt_18, zt_19, zt_20, zt_21, zt_22, zt_23, zt_24, zt_25, zt_26, zt_27, zt_28, zt_29, zt_30, zt_31, zt_63, zt_255, zt_400, zt_401, zt_397, zt_511, zt_512, zt_1024, zt_1023, zt_2048, zt_m1, zt_m2, zt_m9] at *; omega)]
    · refine zw_iconst (x := 1) dX3_hasState_12 rfl ?_
      refine zw_goto (tgt := 17) dX3_hasState_13 (by decide) ?_
      refine zw_iret dX3_hasState_17 rfl rfl ?_
      unfold xS
      refine ⟨?_, rfl⟩
      first | rw [zb_t (by simp only [Int32.lt_iff_toInt_lt, Int32.le_iff_toInt_le, vp_in_iff, zt_0, zt_1, zt_2, zt_3, zt_4, zt_5, zt_6, zt_7, zt_8, zt_9, zt_10, zt_11, zt_12, zt_13, zt_14, zt_15, zt_16, zt_17, zt_18, zt_19, zt_20, zt_21, zt_22, zt_23, zt_24, zt_25, zt_26, zt_27, zt_28, zt_29, zt_30, zt_31, zt_63, zt_255, zt_400, zt_401, zt_397, zt_511, zt_512, zt_1024, zt_1023, zt_2048, zt_m1, zt_m2, zt_m9] at *; omega)] | rw [zb_f (by simp only [Int32.lt_iff_toInt_lt, Int32.le_iff_toInt_le, vp_in_iff, zt_0, zt_1, zt_2, zt_3, zt_4, zt_5, zt_6, zt_7, zt_8, zt_9, zt_10, zt_11, zt_12, zt_13, zt_14, zt_15, zt_16, zt_17, zt_18, zt_19, zt_20, zt_21, zt_22, zt_23, zt_24, zt_25, zt_26, zt_27, zt_28, zt_29, zt_30, zt_31, zt_63, zt_255, zt_400, zt_401, zt_397, zt_511, zt_512, zt_1024, zt_1023, zt_2048, zt_m1, zt_m2, zt_m9] at *; omega)]
set_option maxHeartbeats 4000000 in
set_option maxRecDepth 100000 in
theorem c_X3_keyOf {l : Launch} {σ : zS} (h : xSh σ) {s : Nat} (hs : s < 400) : zAM l zmX3_keyOf 0 0 0 0 [.ref 8, .int (nI s)] σ (fun v σ' => v = some (.int (zI σ 9 s)) ∧ σ' = σ) := by
  refine zAM.of (by decide +kernel) (Nat.le_of_ble_eq_true rfl) ?_
  refine zw_aload_n dX3_keyOf_0 rfl ?_
  refine zw_getR dX3_keyOf_1 zfX3_11 rfl (xk_8 h) (by decide) (xg_3_0 h) ?_
  refine zw_iload_n dX3_keyOf_4 rfl ?_
  refine zw_iaload dX3_keyOf_5 (xk_9 h) (zin_of (xl_9 h) (vp_in_nI (by omega) (by omega))) ?_
  refine zw_iret dX3_keyOf_6 rfl rfl ?_
  rw [nI_clamp (by omega)]
  exact ⟨rfl, rfl⟩
set_option maxHeartbeats 4000000 in
set_option maxRecDepth 100000 in
theorem c_X3_depthOf {l : Launch} {σ : zS} (h : xSh σ) {s : Nat} (hs : s < 400) : zAM l zmX3_depthOf 0 0 0 0 [.ref 8, .int (nI s)] σ (fun v σ' => v = some (.int (zI σ 10 s)) ∧ σ' = σ) := by
  refine zAM.of (by decide +kernel) (Nat.le_of_ble_eq_true rfl) ?_
  refine zw_aload_n dX3_depthOf_0 rfl ?_
  refine zw_getR dX3_depthOf_1 zfX3_15 rfl (xk_8 h) (by decide) (xg_3_1 h) ?_
  refine zw_iload_n dX3_depthOf_4 rfl ?_
  refine zw_iaload dX3_depthOf_5 (xk_10 h) (zin_of (xl_10 h) (vp_in_nI (by omega) (by omega))) ?_
  refine zw_iret dX3_depthOf_6 rfl rfl ?_
  rw [nI_clamp (by omega)]
  exact ⟨rfl, rfl⟩
set_option maxHeartbeats 4000000 in
set_option maxRecDepth 100000 in
theorem c_X3_parentOf {l : Launch} {σ : zS} (h : xSh σ) {s : Nat} (hs : s < 400) : zAM l zmX3_parentOf 0 0 0 0 [.ref 8, .int (nI s)] σ (fun v σ' => v = some (.int (zI σ 11 s)) ∧ σ' = σ) := by
  refine zAM.of (by decide +kernel) (Nat.le_of_ble_eq_true rfl) ?_
  refine zw_aload_n dX3_parentOf_0 rfl ?_
  refine zw_getR dX3_parentOf_1 zfX3_18 rfl (xk_8 h) (by decide) (xg_3_2 h) ?_
  refine zw_iload_n dX3_parentOf_4 rfl ?_
  refine zw_iaload dX3_parentOf_5 (xk_11 h) (zin_of (xl_11 h) (vp_in_nI (by omega) (by omega))) ?_
  refine zw_iret dX3_parentOf_6 rfl rfl ?_
  rw [nI_clamp (by omega)]
  exact ⟨rfl, rfl⟩
set_option maxHeartbeats 4000000 in
set_option maxRecDepth 100000 in
theorem c_X3_parentStepOf {l : Launch} {σ : zS} (h : xSh σ) {s : Nat} (hs : s < 400) : zAM l zmX3_parentStepOf 0 0 0 0 [.ref 8, .int (nI s)] σ (fun v σ' => v = some (.int (zI σ 12 s)) ∧ σ' = σ) := by
  refine zAM.of (by decide +kernel) (Nat.le_of_ble_eq_true rfl) ?_
  refine zw_aload_n dX3_parentStepOf_0 rfl ?_
  refine zw_getR dX3_parentStepOf_1 zfX3_21 rfl (xk_8 h) (by decide) (xg_3_3 h) ?_
  refine zw_iload_n dX3_parentStepOf_4 rfl ?_
  refine zw_iaload dX3_parentStepOf_5 (xk_12 h) (zin_of (xl_12 h) (vp_in_nI (by omega) (by omega))) ?_
  refine zw_iret dX3_parentStepOf_6 rfl rfl ?_
  rw [nI_clamp (by omega)]
  exact ⟨rfl, rfl⟩
set_option maxHeartbeats 4000000 in
set_option maxRecDepth 100000 in
theorem c_X3_takersIn {l : Launch} {σ : zS} (h : xSh σ) {s : Nat} (hs : s < 400) : zAM l zmX3_takersIn 0 0 0 0 [.ref 8, .int (nI s)] σ (fun v σ' => v = some (.int (zI σ 13 s)) ∧ σ' = σ) := by
  refine zAM.of (by decide +kernel) (Nat.le_of_ble_eq_true rfl) ?_
  refine zw_aload_n dX3_takersIn_0 rfl ?_
  refine zw_getR dX3_takersIn_1 zfX3_24 rfl (xk_8 h) (by decide) (xg_3_4 h) ?_
  refine zw_iload_n dX3_takersIn_4 rfl ?_
  refine zw_iaload dX3_takersIn_5 (xk_13 h) (zin_of (xl_13 h) (vp_in_nI (by omega) (by omega))) ?_
  refine zw_iret dX3_takersIn_6 rfl rfl ?_
  rw [nI_clamp (by omega)]
  exact ⟨rfl, rfl⟩
set_option maxHeartbeats 4000000 in
set_option maxRecDepth 100000 in
theorem c_X3_stepsOf {l : Launch} {σ : zS} (h : xSh σ) {s : Nat} (hs : s < 400) : zAM l zmX3_stepsOf 0 0 0 0 [.ref 8, .int (nI s)] σ (fun v σ' => v = some (.int (zI σ 14 (s + 1) - zI σ 14 s)) ∧ σ' = σ) := by
  refine zAM.of (by decide +kernel) (Nat.le_of_ble_eq_true rfl) ?_
  refine zw_aload_n dX3_stepsOf_0 rfl ?_
  refine zw_getR dX3_stepsOf_1 zfX3_27 rfl (xk_8 h) (by decide) (xg_3_5 h) ?_
  refine zw_iload_n dX3_stepsOf_4 rfl ?_
  refine zw_iconst (x := 1) dX3_stepsOf_5 rfl ?_
  refine zw_iadd dX3_stepsOf_6 ?_
  refine zw_iaload dX3_stepsOf_7 (xk_14 h) (zin_of (xl_14 h) (by rw [nI_1]; exact vp_in_nI (by omega) (by omega))) ?_
  refine zw_aload_n dX3_stepsOf_8 rfl ?_
  refine zw_getR dX3_stepsOf_9 zfX3_27 rfl (xk_8 h) (by decide) (xg_3_5 h) ?_
  refine zw_iload_n dX3_stepsOf_12 rfl ?_
  refine zw_iaload dX3_stepsOf_13 (xk_14 h) (zin_of (xl_14 h) (vp_in_nI (by omega) (by omega))) ?_
  refine zw_isub dX3_stepsOf_14 ?_
  refine zw_iret dX3_stepsOf_15 rfl rfl ?_
  rw [nI_1, nI_clamp (by omega), nI_clamp (by omega)]
  exact ⟨rfl, rfl⟩
set_option maxHeartbeats 4000000 in
set_option maxRecDepth 100000 in
theorem c_X3_packedStep {l : Launch} {σ : zS} (h : xSh σ) {pk : Nat} (hpk : xPk σ pk) {s i f : Nat} (hs : s < 400) (hf : zI σ 14 s = nI f) (hi : f + i < zL σ pk) (hl : zL σ pk < 2 ^ 31) : zAM l zmX3_packedStep 0 0 0 0 [.ref 8, .int (nI s), .int (nI i)] σ (fun v σ' => v = some (.int (zI σ pk (f + i))) ∧ σ' = σ) := by
  refine zAM.of (by decide +kernel) (Nat.le_of_ble_eq_true rfl) ?_
  refine zw_aload_n dX3_packedStep_0 rfl ?_
  refine zw_getR dX3_packedStep_1 zfX3_33 rfl (xk_8 h) (by decide) hpk.1 ?_
  refine zw_aload_n dX3_packedStep_4 rfl ?_
  refine zw_getR dX3_packedStep_5 zfX3_27 rfl (xk_8 h) (by decide) (xg_3_5 h) ?_
  refine zw_iload_n dX3_packedStep_8 rfl ?_
  refine zw_iaload dX3_packedStep_9 (xk_14 h) (zin_of (xl_14 h) (vp_in_nI (by omega) (by omega))) ?_
  refine zw_iload_n dX3_packedStep_10 rfl ?_
  refine zw_iadd dX3_packedStep_11 ?_
  refine zw_iaload dX3_packedStep_12 (hpk.2.1) (by rw [nI_clamp (by omega), hf, nI_add]; exact vp_in_nI hi hl) ?_
  refine zw_iret dX3_packedStep_13 rfl rfl ?_
  rw [nI_clamp (n := s) (by omega), hf, nI_add, nI_clamp (by omega)]
  exact ⟨rfl, rfl⟩
set_option maxHeartbeats 4000000 in
set_option maxRecDepth 100000 in
theorem c_X3_partOf {l : Launch} {σ : zS} (k w : Int32) : zAM l zmX3_partOf 0 0 0 0 [.int k, .int w] σ (fun v σ' => v = some (.int (xPart k w)) ∧ σ' = σ) := by
  refine zAM.of (by decide +kernel) (Nat.le_of_ble_eq_true rfl) ?_
  refine zw_iload_n dX3_partOf_0 rfl ?_
  rcases zsplit3 w with rfl | rfl | rfl | rfl | hw
  · refine zw_tableIn (off := 31) (tgt := 32) dX3_partOf_1 (by decide) (by decide) (by decide) (by decide) ?_
    refine zw_iload_n dX3_partOf_32 rfl ?_
    refine zw_sipush (x := 511) dX3_partOf_33 rfl ?_
    refine zw_iand dX3_partOf_36 ?_
    refine zw_iret dX3_partOf_37 rfl rfl ?_
    refine ⟨?_, rfl⟩
    first
      | rfl
      | (unfold xPart; rw [if_neg (fun e => by subst e; revert hw; decide), if_neg (fun e => by subst e; revert hw; decide), if_neg (fun e => by subst e; revert hw; decide), if_neg (fun e => by subst e; revert hw; decide)]; rfl)
  · refine zw_tableIn (off := 37) (tgt := 38) dX3_partOf_1 (by decide) (by decide) (by decide) (by decide) ?_
    refine zw_iload_n dX3_partOf_38 rfl ?_
    refine zw_bipush (x := 9) dX3_partOf_39 rfl ?_
    refine zw_iushr dX3_partOf_41 ?_
    refine zw_bipush (x := 7) dX3_partOf_42 rfl ?_
    refine zw_iand dX3_partOf_44 ?_
    refine zw_iret dX3_partOf_45 rfl rfl ?_
    refine ⟨?_, rfl⟩
    first
      | rfl
      | (unfold xPart; rw [if_neg (fun e => by subst e; revert hw; decide), if_neg (fun e => by subst e; revert hw; decide), if_neg (fun e => by subst e; revert hw; decide), if_neg (fun e => by subst e; revert hw; decide)]; rfl)
  · refine zw_tableIn (off := 45) (tgt := 46) dX3_partOf_1 (by decide) (by decide) (by decide) (by decide) ?_
    refine zw_iload_n dX3_partOf_46 rfl ?_
    refine zw_bipush (x := 12) dX3_partOf_47 rfl ?_
    refine zw_iushr dX3_partOf_49 ?_
    refine zw_bipush (x := 15) dX3_partOf_50 rfl ?_
    refine zw_iand dX3_partOf_52 ?_
    refine zw_iret dX3_partOf_53 rfl rfl ?_
    refine ⟨?_, rfl⟩
    first
      | rfl
      | (unfold xPart; rw [if_neg (fun e => by subst e; revert hw; decide), if_neg (fun e => by subst e; revert hw; decide), if_neg (fun e => by subst e; revert hw; decide), if_neg (fun e => by subst e; revert hw; decide)]; rfl)
  · refine zw_tableIn (off := 53) (tgt := 54) dX3_partOf_1 (by decide) (by decide) (by decide) (by decide) ?_
    refine zw_iload_n dX3_partOf_54 rfl ?_
    refine zw_bipush (x := 16) dX3_partOf_55 rfl ?_
    refine zw_iushr dX3_partOf_57 ?_
    refine zw_bipush (x := 7) dX3_partOf_58 rfl ?_
    refine zw_iand dX3_partOf_60 ?_
    refine zw_iconst (x := 1) dX3_partOf_61 rfl ?_
    refine zw_isub dX3_partOf_62 ?_
    refine zw_iret dX3_partOf_63 rfl rfl ?_
    refine ⟨?_, rfl⟩
    first
      | rfl
      | (unfold xPart; rw [if_neg (fun e => by subst e; revert hw; decide), if_neg (fun e => by subst e; revert hw; decide), if_neg (fun e => by subst e; revert hw; decide), if_neg (fun e => by subst e; revert hw; decide)]; rfl)
  · refine zw_tableOut (tgt := 64) dX3_partOf_1 hw (by decide) ?_
    refine zw_iload_n dX3_partOf_64 rfl ?_
    refine zw_bipush (x := 19) dX3_partOf_65 rfl ?_
    refine zw_iushr dX3_partOf_67 ?_
    refine zw_bipush (x := 31) dX3_partOf_68 rfl ?_
    refine zw_iand dX3_partOf_70 ?_
    refine zw_iconst (x := 1) dX3_partOf_71 rfl ?_
    refine zw_isub dX3_partOf_72 ?_
    refine zw_iret dX3_partOf_73 rfl rfl ?_
    refine ⟨?_, rfl⟩
    first
      | rfl
      | (unfold xPart; rw [if_neg (fun e => by subst e; revert hw; decide), if_neg (fun e => by subst e; revert hw; decide), if_neg (fun e => by subst e; revert hw; decide), if_neg (fun e => by subst e; revert hw; decide)]; rfl)
set_option maxHeartbeats 4000000 in
set_option maxRecDepth 100000 in
theorem c_X3_takersOf {l : Launch} {σ : zS} (k : Int32) : zAM l zmX3_takersOf 1 21 0 0 [.int k] σ (fun v σ' => v = some (.int (xTk k)) ∧ σ' = σ) := by
  refine zAM.of (by decide +kernel) (Nat.le_of_ble_eq_true rfl) ?_
  refine zw_iload_n dX3_takersOf_0 rfl ?_
  refine zw_iconst (x := 3) dX3_takersOf_1 rfl ?_
  refine zw_callS (y' := zmX3_partOf) dX3_takersOf_2 zlX3_40 zmX3_partOf_ok (c_X3_partOf _ _) rfl rfl (Nat.le_of_ble_eq_true rfl) ⟨Nat.le_of_ble_eq_true rfl, Nat.le_of_ble_eq_true rfl⟩ ⟨Nat.le_of_ble_eq_true rfl, Nat.le_of_ble_eq_true rfl⟩ ?_
  intro v2 s2 q2
  obtain ⟨rfl, rfl⟩ := q2
  refine zw_istore_n dX3_takersOf_5 (by decide) rfl ?_
  refine zw_iconst (x := 1) dX3_takersOf_6 rfl ?_
  refine zw_iload_n dX3_takersOf_7 rfl ?_
  refine zw_iconst (x := 1) dX3_takersOf_8 rfl ?_
  refine zw_callS (y' := zmX3_partOf) dX3_takersOf_9 zlX3_40 zmX3_partOf_ok (c_X3_partOf _ _) rfl rfl (Nat.le_of_ble_eq_true rfl) ⟨Nat.le_of_ble_eq_true rfl, Nat.le_of_ble_eq_true rfl⟩ ⟨Nat.le_of_ble_eq_true rfl, Nat.le_of_ble_eq_true rfl⟩ ?_
  intro v9 s9 q9
  obtain ⟨rfl, rfl⟩ := q9
  refine zw_ishl dX3_takersOf_12 ?_
  refine zw_iload_n dX3_takersOf_13 rfl ?_
  refine zw_ifge (tgt := 21) dX3_takersOf_14 (by decide) (fun c14 => ?_) (fun c14 => ?_)
  · refine zw_iconst (x := 1) dX3_takersOf_21 rfl ?_
    refine zw_iload_n dX3_takersOf_22 rfl ?_
    refine zw_ishl dX3_takersOf_23 ?_
    refine zw_ior dX3_takersOf_24 ?_
    refine zw_iret dX3_takersOf_25 rfl rfl ?_
    refine ⟨?_, rfl⟩
    unfold xTk
    first
      | rw [if_pos c14]
      | rw [if_neg c14]
  · refine zw_iconst (x := 0) dX3_takersOf_17 rfl ?_
    refine zw_goto (tgt := 24) dX3_takersOf_18 (by decide) ?_
    refine zw_ior dX3_takersOf_24 ?_
    refine zw_iret dX3_takersOf_25 rfl rfl ?_
    refine ⟨?_, rfl⟩
    unfold xTk
    first
      | rw [if_pos c14]
      | rw [if_neg c14]
set_option maxHeartbeats 4000000 in
set_option maxRecDepth 100000 in
theorem c_X3_forget {l : Launch} {σ : zS} (h : xSh σ) : zAM l zmX3_forget 0 0 0 0 [.ref 8] σ (fun v σ' => v = none ∧ σ' = zsF (zsF (zsF σ 3 8 8 0) 3 9 8 0) 3 10 8 0) := by
  refine zAM.of (by decide +kernel) (Nat.le_of_ble_eq_true rfl) ?_
  refine zw_aload_n dX3_forget_0 rfl ?_
  refine zw_iconst (x := 0) dX3_forget_1 rfl ?_
  refine zw_putI dX3_forget_2 zfX3_36 rfl rfl ⟨rfl, rfl⟩ (xk_8 h) (by decide) ?_
  refine zw_aload_n dX3_forget_5 rfl ?_
  refine zw_iconst (x := 0) dX3_forget_6 rfl ?_
  refine zw_putI dX3_forget_7 zfX3_44 rfl rfl ⟨rfl, rfl⟩ (xk_8 h) (by decide) ?_
  refine zw_aload_n dX3_forget_10 rfl ?_
  refine zw_iconst (x := 0) dX3_forget_11 rfl ?_
  refine zw_putI dX3_forget_12 zfX3_47 rfl rfl ⟨rfl, rfl⟩ (xk_8 h) (by decide) ?_
  refine zw_vret dX3_forget_15 rfl ?_
  exact ⟨rfl, rfl⟩
set_option maxHeartbeats 4000000 in
set_option maxRecDepth 100000 in
theorem c_X3_newState {l : Launch} {σ : zS} (h : xSh σ) {n t p f : Nat} (hn : xS σ = nI n) (hn4 : n < 400) (ht : t < 1024) (hp : p < 400) (k d : Int32) : zAM l zmX3_newState 0 0 0 0 [.ref 8, .int k, .int (nI t), .int (nI p), .int d] σ (fun v σ' => v = none ∧ σ' = xNew σ k t p d n) := by
  refine zAM.of (by decide +kernel) (Nat.le_of_ble_eq_true rfl) ?_
  refine zw_aload_n dX3_newState_0 rfl ?_
  refine zw_getR dX3_newState_1 zfX3_11 rfl (xk_8 h) (by decide) (xg_3_0 h) ?_
  refine zw_aload_n dX3_newState_4 rfl ?_
  refine zw_getI dX3_newState_5 zfX3_36 rfl (xk_8 h) (by decide) ?_
  refine zw_iload_n dX3_newState_8 rfl ?_
  refine zw_iastore dX3_newState_9 (xk_9 h) (by decide) (zin_of (xl_9 h) (by rw [show zF σ 3 8 8 = nI n from hn]; exact vp_in_nI (by omega) (by omega))) ?_
  refine zw_aload_n dX3_newState_10 rfl ?_
  refine zw_getR dX3_newState_11 zfX3_15 rfl (xk_8 h) (by decide) (xg_3_1 h) ?_
  refine zw_aload_n dX3_newState_14 rfl ?_
  refine zw_getI dX3_newState_15 zfX3_36 rfl (xk_8 h) (by decide) ?_
  refine zw_iload dX3_newState_18 rfl ?_
  refine zw_iastore dX3_newState_20 (xk_10 h) (by decide) (zin_of (xl_10 h) (by rw [show zF (zsI σ 9 (zF σ 3 8 8).toNatClampNeg k) 3 8 8 = nI n from hn]; exact vp_in_nI (by omega) (by omega))) ?_
  refine zw_aload_n dX3_newState_21 rfl ?_
  refine zw_getR dX3_newState_22 zfX3_18 rfl (xk_8 h) (by decide) (xg_3_2 h) ?_
  refine zw_aload_n dX3_newState_25 rfl ?_
  refine zw_getI dX3_newState_26 zfX3_36 rfl (xk_8 h) (by decide) ?_
  refine zw_iload_n dX3_newState_29 rfl ?_
  refine zw_iastore dX3_newState_30 (xk_11 h) (by decide) (zin_of (xl_11 h) (by rw [show zF (zsI (zsI σ 9 (zF σ 3 8 8).toNatClampNeg k) 10 _ d) 3 8 8 = nI n from hn]; exact vp_in_nI (by omega) (by omega))) ?_
  refine zw_aload_n dX3_newState_31 rfl ?_
  refine zw_getR dX3_newState_32 zfX3_21 rfl (xk_8 h) (by decide) (xg_3_3 h) ?_
  refine zw_aload_n dX3_newState_35 rfl ?_
  refine zw_getI dX3_newState_36 zfX3_36 rfl (xk_8 h) (by decide) ?_
  refine zw_aload_n dX3_newState_39 rfl ?_
  refine zw_getI dX3_newState_40 zfX3_44 rfl (xk_8 h) (by decide) ?_
  refine zw_aload_n dX3_newState_43 rfl ?_
  refine zw_getR dX3_newState_44 zfX3_27 rfl (xk_8 h) (by decide) (xg_3_5 h) ?_
  refine zw_iload_n dX3_newState_47 rfl ?_
  refine zw_iaload dX3_newState_48 (xk_14 h) (zin_of (xl_14 h) (vp_in_nI (by omega) (by omega))) ?_
  refine zw_isub dX3_newState_49 ?_
  refine zw_iastore dX3_newState_50 (xk_12 h) (by decide) (zin_of (xl_12 h) (by rw [show zF (zsI (zsI (zsI σ 9 (zF σ 3 8 8).toNatClampNeg k) 10 _ d) 11 _ _) 3 8 8 = nI n from hn]; exact vp_in_nI (by omega) (by omega))) ?_
  refine zw_aload_n dX3_newState_51 rfl ?_
  refine zw_getR dX3_newState_52 zfX3_30 rfl (xk_8 h) (by decide) (xg_3_6 h) ?_
  refine zw_iload_n dX3_newState_55 rfl ?_
  refine zw_aload_n dX3_newState_56 rfl ?_
  refine zw_getI dX3_newState_57 zfX3_36 rfl (xk_8 h) (by decide) ?_
  refine zw_iastore dX3_newState_60 (xk_15 h) (by decide) (zin_of (xl_15 h) (vp_in_nI (by omega) (by omega))) ?_
  refine zw_aload_n dX3_newState_61 rfl ?_
  refine zw_dup dX3_newState_62 rfl ?_
  refine zw_getI dX3_newState_63 zfX3_36 rfl (xk_8 h) (by decide) ?_
  refine zw_iconst (x := 1) dX3_newState_66 rfl ?_
  refine zw_iadd dX3_newState_67 ?_
  refine zw_putI dX3_newState_68 zfX3_36 rfl rfl ⟨rfl, rfl⟩ (xk_8 h) (by decide) ?_
  refine zw_vret dX3_newState_71 rfl ?_
  refine ⟨rfl, ?_⟩
  unfold xNew
  simp only [zF_zsI, nI_clamp (show t < 2 ^ 31 by omega), nI_clamp (show p < 2 ^ 31 by omega), show zF σ 3 8 8 = nI n from hn, nI_clamp (show n < 2 ^ 31 by omega), nI_1, zI_zsI]
  rfl
end
section
/-! slots of keys, numbers of states, steps -/
/-- the slot that a walk of d turns from t on comes to -/
def xProbe (σ : zS) (k : Int32) : Nat → Nat → Nat
  | 0, t => t
  | d + 1, t => if zI σ 15 t < 0 then t else if zI σ 9 (zI σ 15 t).toNatClampNeg = k then t else xProbe σ k d ((t + 1) % 1024)
def xHash (k : Int32) : Nat := (k * (-1640531535)).toBitVec.toNat / 2 ^ 22
theorem xHash_lt (k : Int32) : xHash k < 1024 := by
  unfold xHash
  have := (k * (-1640531535)).toBitVec.isLt
  omega
theorem xHash_nI (k : Int32) : ((k * (-1640531535)).toUInt32 >>> ((22 : Int32).toUInt32 &&& Int32.toUInt32 31)).toInt32 = nI (xHash k) := by
  apply Int32.toBitVec_inj.mp
  apply BitVec.eq_of_toNat_eq
  rw [pk_ushr (k * (-1640531535)) 22 22 (by decide), pk_tn (by have := xHash_lt k; omega)]
  rfl
/-- every slot is free, or holds a number of a state -/
def xSl (σ : zS) : Prop := ∀ t, t < 1024 → (zI σ 15 t < 0 ∨ ∃ s, s < 400 ∧ zI σ 15 t = nI s)
theorem nI_next {t : Nat} (h : t < 1024) : (nI t + 1) &&& 1023 = nI ((t + 1) % 1024) := by
  rw [nI_1, pk_andN (by omega) 10 (by decide)]
set_option maxHeartbeats 4000000 in
set_option maxRecDepth 100000 in
theorem lp_slotOf {l : Launch} {σ : zS} (h : xSh σ) (hsl : xSl σ) (k : Int32) {uc us : Nat} {R : Room} {Q : Option Value → zS → Prop} : ∀ (d i t : Nat), i + d = 1024 → t < 1024 → Q (some (.int (nI (xProbe σ k d t)))) σ → zAW l zmX3_slotOf R 10 [(0, .ref 8), (1, .int k), (2, .int (nI t)), (3, .int (nI i))] [] σ uc us Q := by
  intro d
  induction d with
  | zero =>
    intro i t hi ht hq
    have hi : i = 1024 := hi
    subst hi
    refine zw_iload_n dX3_slotOf_10 rfl ?_
    refine zw_sipush (x := 1024) dX3_slotOf_11 rfl ?_
    refine zw_icmpge (tgt := 55) dX3_slotOf_14 (by decide) (fun c14 => ?_) (fun c14 => ?_)
    · refine zw_iload_n dX3_slotOf_55 rfl ?_
      refine zw_iret dX3_slotOf_56 rfl rfl ?_
      exact hq
    · exact absurd (nI_le (Nat.le_refl 1024) (by omega)) c14
  | succ d ih =>
    intro i t hi ht hq
    refine zw_iload_n dX3_slotOf_10 rfl ?_
    refine zw_sipush (x := 1024) dX3_slotOf_11 rfl ?_
    refine zw_icmpge (tgt := 55) dX3_slotOf_14 (by decide) (fun c14 => ?_) (fun c14 => ?_)
    · exact absurd c14 (show ¬ (1024 : Int32) ≤ nI i from nI_ge (show i < 1024 by omega) (by decide))
    · refine zw_aload_n dX3_slotOf_17 rfl ?_
      refine zw_getR dX3_slotOf_18 zfX3_30 rfl (xk_8 h) (by decide) (xg_3_6 h) ?_
      refine zw_iload_n dX3_slotOf_21 rfl ?_
      refine zw_iaload dX3_slotOf_22 (xk_15 h) (zin_of (xl_15 h) (vp_in_nI (by omega) (by omega))) ?_
      rw [nI_clamp (n := t) (by omega)]
      refine zw_iflt (tgt := 55) dX3_slotOf_23 (by decide) (fun c23 => ?_) (fun c23 => ?_)
      · refine zw_iload_n dX3_slotOf_55 rfl ?_
        refine zw_iret dX3_slotOf_56 rfl rfl ?_
        rw [xProbe, if_pos c23] at hq
        exact hq
      · refine zw_aload_n dX3_slotOf_26 rfl ?_
        refine zw_getR dX3_slotOf_27 zfX3_11 rfl (xk_8 h) (by decide) (xg_3_0 h) ?_
        refine zw_aload_n dX3_slotOf_30 rfl ?_
        refine zw_getR dX3_slotOf_31 zfX3_30 rfl (xk_8 h) (by decide) (xg_3_6 h) ?_
        refine zw_iload_n dX3_slotOf_34 rfl ?_
        refine zw_iaload dX3_slotOf_35 (xk_15 h) (zin_of (xl_15 h) (vp_in_nI (by omega) (by omega))) ?_
        refine zw_iaload dX3_slotOf_36 (xk_9 h) (zin_of (xl_9 h) (by rw [nI_clamp (n := t) (by omega)]; rcases hsl t ht with q | ⟨s, q1, q2⟩; exact absurd q c23; rw [q2]; exact vp_in_nI q1 (by omega))) ?_
        rw [nI_clamp (n := t) (by omega)]
        refine zw_iload_n dX3_slotOf_37 rfl ?_
        refine zw_icmpeq (tgt := 55) dX3_slotOf_38 (by decide) (fun c38 => ?_) (fun c38 => ?_)
        · refine zw_iload_n dX3_slotOf_55 rfl ?_
          refine zw_iret dX3_slotOf_56 rfl rfl ?_
          rw [xProbe, if_neg c23, if_pos c38] at hq
          exact hq
        · refine zw_iload_n dX3_slotOf_41 rfl ?_
          refine zw_iconst (x := 1) dX3_slotOf_42 rfl ?_
          refine zw_iadd dX3_slotOf_43 ?_
          refine zw_sipush (x := 1023) dX3_slotOf_44 rfl ?_
          refine zw_iand dX3_slotOf_47 ?_
          refine zw_istore_n dX3_slotOf_48 (by decide) rfl ?_
          refine zw_iinc dX3_slotOf_49 rfl (by decide) rfl ?_
          refine zw_goto (tgt := 10) dX3_slotOf_52 (by decide) ?_
          refine zw_loc (lc' := [(0, .ref 8), (1, .int k), (2, .int ((nI t + 1) &&& 1023)), (3, .int (nI i + 1))]) (zsub_cons rfl (zsub_cons rfl (zsub_cons rfl (zsub_cons rfl zsub_nil)))) ?_
          rw [nI_next ht, nI_1]
          exact ih (i + 1) ((t + 1) % 1024) (by omega) (by omega) (by rw [xProbe, if_neg c23, if_neg c38] at hq; exact hq)
set_option maxHeartbeats 4000000 in
set_option maxRecDepth 100000 in
theorem c_X3_slotOf {l : Launch} {σ : zS} (h : xSh σ) (hsl : xSl σ) (k : Int32) : zAM l zmX3_slotOf 0 0 0 0 [.ref 8, .int k] σ (fun v σ' => v = some (.int (nI (xProbe σ k 1024 (xHash k)))) ∧ σ' = σ) := by
  refine zAM.of (by decide +kernel) (Nat.le_of_ble_eq_true rfl) ?_
  refine zw_iload_n dX3_slotOf_0 rfl ?_
  refine zw_ldc (x := -1640531535) dX3_slotOf_1 zkX3_140 ?_
  refine zw_imul dX3_slotOf_3 ?_
  refine zw_bipush (x := 22) dX3_slotOf_4 rfl ?_
  refine zw_iushr dX3_slotOf_6 ?_
  rw [xHash_nI]
  refine zw_istore_n dX3_slotOf_7 (by decide) rfl ?_
  refine zw_iconst (x := 0) dX3_slotOf_8 rfl ?_
  refine zw_istore_n dX3_slotOf_9 (by decide) rfl ?_
  refine zw_loc (lc' := [(0, .ref 8), (1, .int k), (2, .int (nI (xHash k))), (3, .int (nI 0))]) (zsub_cons rfl (zsub_cons rfl (zsub_cons rfl (zsub_cons rfl zsub_nil)))) ?_
  exact lp_slotOf h hsl k 1024 0 (xHash k) rfl (xHash_lt k) ⟨rfl, rfl⟩
theorem Int32_lt_400 {σ : zS} {n : Nat} (hn : xS σ = nI n) (hb : n < 2 ^ 31) (c : zF σ 3 8 8 < 400) : n < 400 := by
  have c : xS σ < 400 := c
  rw [hn] at c
  rcases Nat.lt_or_ge n 400 with q | q
  · exact q
  · exfalso
    have h2 := Int32.lt_iff_toInt_lt.mp c
    rw [zt_400] at h2
    rw [nI_toInt hb] at h2
    omega
theorem pk_pred (n : Nat) : nI (n + 1) - 1 = nI n := nI_pred n
theorem xProbe_lt (σ : zS) (k : Int32) : ∀ d t, t < 1024 → xProbe σ k d t < 1024
  | 0, t, h => h
  | d + 1, t, h => by
    unfold xProbe
    split
    · exact h
    · split
      · exact h
      · exact xProbe_lt σ k d _ (by omega)
set_option maxHeartbeats 4000000 in
set_option maxRecDepth 100000 in
theorem c_X3_numberOf {l : Launch} {σ : zS} (h : xSh σ) (hsl : xSl σ) {n p : Nat} (hn : xS σ = nI n) (hn4 : n ≤ 400) (hp : p < 400) (k : Int32) {t : Nat} (ht : xProbe σ k 1024 (xHash k) = t) : zAM l zmX3_numberOf 1 24 0 0 [.ref 8, .int k, .int (nI p)] σ (fun v σ' => v = some (.int (if zI σ 15 t < 0 then (if n < 400 then nI n else -1) else zI σ 15 t)) ∧ σ' = (if zI σ 15 t < 0 then (if n < 400 then xNew σ k t p (zI σ 10 p + 1) n else σ) else σ)) := by
  refine zAM.of (by decide +kernel) (Nat.le_of_ble_eq_true rfl) ?_
  have htl : t < 1024 := by rw [← ht]; exact xProbe_lt σ k 1024 _ (xHash_lt k)
  refine zw_aload_n dX3_numberOf_0 rfl ?_
  refine zw_iload_n dX3_numberOf_1 rfl ?_
  refine zw_callV (y' := zmX3_slotOf) dX3_numberOf_2 zlX3_66 zmX3_slotOf_ok (xk_8 h) (by decide) rfl (c_X3_slotOf h hsl _) rfl rfl (Nat.le_of_ble_eq_true rfl) ⟨Nat.le_of_ble_eq_true rfl, Nat.le_of_ble_eq_true rfl⟩ ⟨Nat.le_of_ble_eq_true rfl, Nat.le_of_ble_eq_true rfl⟩ ?_
  intro v2 s2 q2
  obtain ⟨rfl, rfl⟩ := q2
  rw [ht]
  refine zw_istore_n dX3_numberOf_5 (by decide) rfl ?_
  refine zw_aload_n dX3_numberOf_6 rfl ?_
  refine zw_getR dX3_numberOf_7 zfX3_30 rfl (xk_8 h) (by decide) (xg_3_6 h) ?_
  refine zw_iload_n dX3_numberOf_10 rfl ?_
  refine zw_iaload dX3_numberOf_11 (xk_15 h) (zin_of (xl_15 h) (vp_in_nI (by omega) (by omega))) ?_
  rw [nI_clamp (n := t) (by omega)]
  refine zw_iflt (tgt := 22) dX3_numberOf_12 (by decide) (fun c12 => ?_) (fun c12 => ?_)
  · refine zw_aload_n dX3_numberOf_22 rfl ?_
    refine zw_getI dX3_numberOf_23 zfX3_36 rfl (xk_8 h) (by decide) ?_
    refine zw_sipush (x := 400) dX3_numberOf_26 rfl ?_
    refine zw_icmplt (tgt := 34) dX3_numberOf_29 (by decide) (fun c29 => ?_) (fun c29 => ?_)
    · refine zw_aload_n dX3_numberOf_34 rfl ?_
      refine zw_iload_n dX3_numberOf_35 rfl ?_
      refine zw_iload_n dX3_numberOf_36 rfl ?_
      refine zw_iload_n dX3_numberOf_37 rfl ?_
      refine zw_aload_n dX3_numberOf_38 rfl ?_
      refine zw_getR dX3_numberOf_39 zfX3_15 rfl (xk_8 h) (by decide) (xg_3_1 h) ?_
      refine zw_iload_n dX3_numberOf_42 rfl ?_
      refine zw_iaload dX3_numberOf_43 (xk_10 h) (zin_of (xl_10 h) (vp_in_nI (by omega) (by omega))) ?_
      rw [nI_clamp (n := p) (by omega)]
      refine zw_iconst (x := 1) dX3_numberOf_44 rfl ?_
      refine zw_iadd dX3_numberOf_45 ?_
      refine zw_callV (y' := zmX3_newState) dX3_numberOf_46 zlX3_70 zmX3_newState_ok (xk_8 h) (by decide) rfl (c_X3_newState (f := 0) h hn (Int32_lt_400 (n := n) hn (Nat.lt_of_le_of_lt hn4 (by decide)) c29) htl hp _ _) rfl rfl (Nat.le_of_ble_eq_true rfl) ⟨Nat.le_of_ble_eq_true rfl, Nat.le_of_ble_eq_true rfl⟩ ⟨Nat.le_of_ble_eq_true rfl, Nat.le_of_ble_eq_true rfl⟩ ?_
      intro v46 s46 q46
      obtain ⟨rfl, rfl⟩ := q46
      refine zw_aload_n dX3_numberOf_49 rfl ?_
      refine zw_getI dX3_numberOf_50 zfX3_36 rfl (xk_8 h) (by decide) ?_
      refine zw_iconst (x := 1) dX3_numberOf_53 rfl ?_
      refine zw_isub dX3_numberOf_54 ?_
      refine zw_iret dX3_numberOf_55 rfl rfl ?_
      have h4 := Int32_lt_400 (n := n) hn (Nat.lt_of_le_of_lt hn4 (by decide)) c29
      rw [if_pos c12, if_pos c12, if_pos h4, if_pos h4]
      refine ⟨?_, rfl⟩
      unfold xNew
      rw [zF_zsF, if_pos ⟨rfl, rfl, rfl⟩, pk_pred]
    · refine zw_iconst (x := -1) dX3_numberOf_32 rfl ?_
      refine zw_iret dX3_numberOf_33 rfl rfl ?_
      rw [if_pos c12, if_pos c12]
      have h4 : ¬ n < 400 := fun q => c29 (by show xS _ < _; rw [hn]; exact nI_lt q (by decide))
      rw [if_neg h4, if_neg h4]
      exact ⟨rfl, rfl⟩
  · refine zw_aload_n dX3_numberOf_15 rfl ?_
    refine zw_getR dX3_numberOf_16 zfX3_30 rfl (xk_8 h) (by decide) (xg_3_6 h) ?_
    refine zw_iload_n dX3_numberOf_19 rfl ?_
    refine zw_iaload dX3_numberOf_20 (xk_15 h) (zin_of (xl_15 h) (vp_in_nI (by omega) (by omega))) ?_
    refine zw_iret dX3_numberOf_21 rfl rfl ?_
    rw [nI_clamp (n := t) (by omega), if_neg c12, if_neg c12]
    exact ⟨rfl, rfl⟩
end
section
/-! the slots as a table of keys -/
theorem pigeon : ∀ (n m : Nat) (f : Nat → Nat), n < m → ∃ t, t < m ∧ ∀ s, s < n → f s ≠ t
  | 0, m, f, h => ⟨0, h, fun s hs => by omega⟩
  | n + 1, m, f, h => by
    obtain ⟨t, h1, h2⟩ := pigeon n (m - 1) (fun s => if f n < f s then f s - 1 else f s) (by omega)
    by_cases ht : f n ≤ t
    · refine ⟨t + 1, by omega, fun s hs e => ?_⟩
      by_cases hsn : s = n
      · subst hsn
        omega
      · refine h2 s (by omega) ?_
        show (if f n < f s then f s - 1 else f s) = t
        rw [if_pos (by omega)]
        omega
    · refine ⟨t, by omega, fun s hs e => ?_⟩
      by_cases hsn : s = n
      · subst hsn
        omega
      · refine h2 s (by omega) ?_
        show (if f n < f s then f s - 1 else f s) = t
        rw [if_neg (by omega)]
        exact e
/-- n states lie in the slots: where each lies (at the place po s), what lies in the way to it, and that no two have one key -/
def xHs (σ : zS) (n : Nat) (po : Nat → Nat) : Prop :=
  (∀ t, t < 1024 → (zI σ 15 t = -1 ∨ ∃ s, s < n ∧ zI σ 15 t = nI s ∧ po s = t)) ∧
  (∀ s, s < n → po s < 1024 ∧ zI σ 15 (po s) = nI s) ∧
  (∀ s, s < n → ∃ d, d < 1024 ∧ po s = (xHash (zI σ 9 s) + d) % 1024 ∧ ∀ j, j < d → zI σ 15 ((xHash (zI σ 9 s) + j) % 1024) ≠ -1) ∧
  (∀ s s', s < n → s' < n → zI σ 9 s = zI σ 9 s' → s = s')
theorem xHs.sl {σ : zS} {n : Nat} {po : Nat → Nat} (h : xHs σ n po) (hn : n ≤ 400) : xSl σ := fun t ht => by
  rcases h.1 t ht with e | ⟨s, h1, h2, -⟩
  · rw [e]
    exact Or.inl (by decide)
  · exact Or.inr ⟨s, by omega, h2⟩
theorem m1_neg : (-1 : Int32) < 0 := by decide
/-- the walk from the slot (a + j) with the turns that are left, where it ends at (a + d) -/
theorem xProbe_walk {σ : zS} {k : Int32} {a d : Nat} (hstop : zI σ 15 ((a + d) % 1024) < 0 ∨ zI σ 9 (zI σ 15 ((a + d) % 1024)).toNatClampNeg = k)
    (hgo : ∀ j, j < d → ¬ zI σ 15 ((a + j) % 1024) < 0 ∧ ¬ zI σ 9 (zI σ 15 ((a + j) % 1024)).toNatClampNeg = k) : ∀ (r j : Nat), j + r = d → ∀ m, r < m → xProbe σ k m ((a + j) % 1024) = (a + d) % 1024
  | 0, j, hj, m, hm => by
    have hj : j = d := by omega
    subst hj
    cases m with
    | zero => omega
    | succ m =>
      unfold xProbe
      rcases hstop with q | q
      · rw [if_pos q]
      · by_cases q2 : zI σ 15 ((a + j) % 1024) < 0
        · rw [if_pos q2]
        · rw [if_neg q2, if_pos q]
  | r + 1, j, hj, m, hm => by
    cases m with
    | zero => omega
    | succ m =>
      unfold xProbe
      have h1 := hgo j (by omega)
      rw [if_neg h1.1, if_neg h1.2]
      have e : ((a + j) % 1024 + 1) % 1024 = (a + (j + 1)) % 1024 := by omega
      rw [e]
      exact xProbe_walk hstop hgo r (j + 1) (by omega) m (by omega)
theorem xProbe_found {σ : zS} {n : Nat} {po : Nat → Nat} (h : xHs σ n po) (hn : n ≤ 400) {s : Nat} (hs : s < n) : xProbe σ (zI σ 9 s) 1024 (xHash (zI σ 9 s)) = po s := by
  obtain ⟨d, h1, h2, h3⟩ := h.2.2.1 s hs
  have hl := xHash_lt (zI σ 9 s)
  have key := xProbe_walk (σ := σ) (k := zI σ 9 s) (a := xHash (zI σ 9 s)) (d := d) (Or.inr ?_) (fun j hj => ⟨?_, ?_⟩) d 0 (by omega) 1024 h1
  · rw [Nat.add_zero, Nat.mod_eq_of_lt hl] at key
    rw [key, h2]
  · rw [← h2, (h.2.1 s hs).2, nI_clamp (by omega)]
  · intro q
    rcases h.1 ((xHash (zI σ 9 s) + j) % 1024) (by omega) with e | ⟨s', e1, e2, e3⟩
    · exact h3 j hj e
    · rw [e2] at q
      exact nI_pos (by omega) q
  · intro q
    rcases h.1 ((xHash (zI σ 9 s) + j) % 1024) (by omega) with e | ⟨s', e1, e2, e3⟩
    · exact h3 j hj e
    · rw [e2, nI_clamp (by omega)] at q
      have := h.2.2.2 s' s e1 hs q
      subst this
      omega
theorem md_1024 (a t : Nat) (ha : a < 1024) (ht : t < 1024) : (a + (t + 1024 - a) % 1024) % 1024 = t := by omega
theorem xProbe_new {σ : zS} {n : Nat} {po : Nat → Nat} (h : xHs σ n po) (hn : n ≤ 400) {k : Int32} (hk : ∀ s, s < n → zI σ 9 s ≠ k) : ∃ d, d < 1024 ∧ xProbe σ k 1024 (xHash k) = (xHash k + d) % 1024 ∧ zI σ 15 ((xHash k + d) % 1024) = -1 ∧ ∀ j, j < d → zI σ 15 ((xHash k + j) % 1024) ≠ -1 := by
  have hl := xHash_lt k
  obtain ⟨t, ht, hf⟩ := pigeon n 1024 po (by omega)
  have hfree : zI σ 15 t = -1 := by
    rcases h.1 t ht with e | ⟨s, e1, e2, e3⟩
    · exact e
    · exact absurd e3 (hf s e1)
  have hmd := md_1024 (xHash k) t hl ht
  have hfree2 : zI σ 15 ((xHash k + (t + 1024 - xHash k) % 1024) % 1024) = -1 := by rw [hmd]; exact hfree
  obtain ⟨d, hd1, hd3⟩ := pk_least (fun d => zI σ 15 ((xHash k + d) % 1024) = -1) ⟨(t + 1024 - xHash k) % 1024, hfree2⟩
  have hd1 : zI σ 15 ((xHash k + d) % 1024) = -1 := hd1
  have hd2 : ∀ j, j < d → zI σ 15 ((xHash k + j) % 1024) ≠ -1 := fun j hj => hd3 j hj
  have hd : d < 1024 := by
    rcases Nat.lt_or_ge d 1024 with q | q
    · exact q
    · have hlt : (t + 1024 - xHash k) % 1024 < d := Nat.lt_of_lt_of_le (Nat.mod_lt _ (by decide)) q
      exact absurd hfree2 (hd2 _ hlt)
  refine ⟨d, hd, ?_, hd1, hd2⟩
  have key := xProbe_walk (σ := σ) (k := k) (a := xHash k) (d := d) (Or.inl (by rw [hd1]; exact m1_neg)) (fun j hj => ?_) d 0 (by omega) 1024 hd
  · rw [Nat.add_zero, Nat.mod_eq_of_lt hl] at key
    exact key
  · rcases h.1 ((xHash k + j) % 1024) (by omega) with e | ⟨s, e1, e2, e3⟩
    · exact absurd e (hd2 j hj)
    · rw [e2, nI_clamp (by omega)]
      exact ⟨nI_pos (by omega), hk s e1⟩
theorem nI_nm1 {s : Nat} (h : s < 2 ^ 31) : nI s ≠ -1 := fun e => by
  have h2 := nI_pos h
  rw [e] at h2
  exact h2 m1_neg
def xPo (po : Nat → Nat) (n t : Nat) : Nat → Nat := fun s => if s = n then t else po s
theorem xPo_n (po : Nat → Nat) (n t : Nat) : xPo po n t n = t := if_pos rfl
theorem xPo_s (po : Nat → Nat) {n t s : Nat} (h : s ≠ n) : xPo po n t s = po s := if_neg h
theorem xNew_15 (σ : zS) (k d : Int32) (t p n j : Nat) : zI (xNew σ k t p d n) 15 j = if j = t then nI n else zI σ 15 j := by
  unfold xNew
  simp only [zI_zsF, zI_zsI]
  by_cases q : j = t
  · simp [q]
  · simp [q]
theorem xNew_9 (σ : zS) (k d : Int32) (t p n j : Nat) : zI (xNew σ k t p d n) 9 j = if j = n then k else zI σ 9 j := by
  unfold xNew
  simp only [zI_zsF, zI_zsI]
  by_cases q : j = n
  · simp [q]
  · simp [q]
/-- a state more -/
theorem xHs.add0 {σ σ' : zS} {n : Nat} {po : Nat → Nat} (h : xHs σ n po) (hn : n < 400) {k : Int32} (hk : ∀ s, s < n → zI σ 9 s ≠ k) {t e : Nat} (htl : t < 1024) (he1 : e < 1024) (he2 : t = (xHash k + e) % 1024) (he3 : zI σ 15 t = -1) (he4 : ∀ j, j < e → zI σ 15 ((xHash k + j) % 1024) ≠ -1) (f15 : ∀ j, zI σ' 15 j = if j = t then nI n else zI σ 15 j) (f9 : ∀ j, zI σ' 9 j = if j = n then k else zI σ 9 j) : xHs σ' (n + 1) (xPo po n t) := by
  have po_ne : ∀ s, s < n → po s ≠ t := fun s hs q => by
    have := (h.2.1 s hs).2
    rw [q, he3] at this
    exact nI_nm1 (by omega) this.symm
  refine ⟨fun j hj => ?_, fun s hs => ?_, fun s hs => ?_, fun s s' hs hs' => ?_⟩
  · rw [f15]
    by_cases q : j = t
    · rw [if_pos q]
      exact Or.inr ⟨n, by omega, rfl, (xPo_n po n t).trans q.symm⟩
    · rw [if_neg q]
      rcases h.1 j hj with z | ⟨s, z1, z2, z3⟩
      · exact Or.inl z
      · exact Or.inr ⟨s, by omega, z2, (xPo_s po (by omega)).trans z3⟩
  · by_cases q : s = n
    · subst q
      rw [xPo_n, f15, if_pos rfl]
      exact ⟨htl, rfl⟩
    · rw [xPo_s po q, f15, if_neg (po_ne s (by omega))]
      exact h.2.1 s (by omega)
  · rw [f9]
    by_cases q : s = n
    · subst q
      rw [if_pos rfl, xPo_n]
      refine ⟨e, he1, he2, fun j hj => ?_⟩
      rw [f15]
      by_cases q2 : (xHash k + j) % 1024 = t
      · rw [if_pos q2]
        exact nI_nm1 (by omega)
      · rw [if_neg q2]
        exact he4 j hj
    · rw [if_neg q, xPo_s po q]
      obtain ⟨d', z1, z2, z3⟩ := h.2.2.1 s (by omega)
      refine ⟨d', z1, z2, fun j hj => ?_⟩
      rw [f15]
      by_cases q2 : (xHash (zI σ 9 s) + j) % 1024 = t
      · rw [if_pos q2]
        exact nI_nm1 (by omega)
      · rw [if_neg q2]
        exact z3 j hj
  · rw [f9, f9]
    by_cases q : s = n
    · subst q
      rw [if_pos rfl]
      by_cases q2 : s' = s
      · exact fun _ => q2.symm
      · rw [if_neg q2]
        exact fun z => absurd z.symm (hk s' (by omega))
    · rw [if_neg q]
      by_cases q2 : s' = n
      · subst q2
        rw [if_pos rfl]
        exact fun z => absurd z (hk s (by omega))
      · rw [if_neg q2]
        exact h.2.2.2 s s' (by omega) (by omega)
theorem xHs.add {σ : zS} {n : Nat} {po : Nat → Nat} (h : xHs σ n po) (hn : n < 400) {k d : Int32} {p : Nat} (hk : ∀ s, s < n → zI σ 9 s ≠ k) {t : Nat} (ht : xProbe σ k 1024 (xHash k) = t) : xHs (xNew σ k t p d n) (n + 1) (xPo po n t) := by
  obtain ⟨e, he1, he2, he3, he4⟩ := xProbe_new h (Nat.le_of_lt hn) hk
  rw [ht] at he2
  rw [← he2] at he3
  exact xHs.add0 h hn hk (by rw [he2]; exact Nat.mod_lt _ (by decide)) he1 he2 he3 he4 (xNew_15 σ k d t p n) (xNew_9 σ k d t p n)
end
section
/-! rows that grow, one step added -/
/-- what a row of ints is behind its doubling -/
def xCpy (σ : zS) (a : Nat) : zS := zsW (znA1 σ 0 (2 * zL σ a)) (zn σ) (va_cpy (zI σ a) (fun _ => 0) 0 0 (zL σ a))
set_option maxHeartbeats 4000000 in
set_option maxRecDepth 100000 in
theorem c_J7_copyOf_59c91 {l : Launch} {σ : zS} {a : Nat} (hk : zK σ a = 100) (hp : 0 < a) (h1 : 1 ≤ zL σ a) (h2 : zL σ a ≤ 67108864) : zAM l zmJ7_copyOf_59c91 1 40 1 (2 * zL σ a) [.ref a, .int (nI (2 * zL σ a))] σ (fun v σ' => v = some (.ref (zn σ)) ∧ σ' = xCpy σ a) := by
  refine zAM.of (by decide +kernel) (Nat.le_of_ble_eq_true rfl) ?_
  refine zw_wf (fun hw => ?_)
  have hne : a ≠ zn σ := zWF_ne hw hk (by decide)
  refine zw_iload_n dJ7_copyOf_59c91_0 rfl ?_
  refine zw_aload_n dJ7_copyOf_59c91_1 rfl ?_
  refine zw_alen (t := 0) dJ7_copyOf_59c91_2 hk (by decide) ?_
  refine zw_icmpne (tgt := 14) dJ7_copyOf_59c91_3 (by decide) (fun c3 => ?_) (fun c3 => ?_)
  · 
    refine zw_iload_n dJ7_copyOf_59c91_14 rfl ?_
    refine zw_newI (N := 2 * zL σ a) dJ7_copyOf_59c91_15 rfl (by omega) ⟨Nat.le_of_eq (Nat.zero_add _), Nat.le_of_eq (Nat.zero_add _)⟩ ?_
    refine zw_astore_n dJ7_copyOf_59c91_17 (by decide) rfl ?_
    refine zw_aload_n dJ7_copyOf_59c91_18 rfl ?_
    refine zw_iconst (x := 0) dJ7_copyOf_59c91_19 rfl ?_
    refine zw_aload_n dJ7_copyOf_59c91_20 rfl ?_
    refine zw_iconst (x := 0) dJ7_copyOf_59c91_21 rfl ?_
    refine zw_aload_n dJ7_copyOf_59c91_22 rfl ?_
    refine zw_alen (t := 0) dJ7_copyOf_59c91_23 (zK_old hw rfl hk (by decide)) (by decide) ?_
    refine zw_iload_n dJ7_copyOf_59c91_24 rfl ?_
    rw [show zL (znA1 σ 0 (2 * zL σ a)) a = zL σ a by rw [zL_znA1, if_neg hne]]
    refine zw_min dJ7_copyOf_59c91_25 zminJ7_304 ⟨Nat.le_of_ble_eq_true rfl, Nat.le_of_ble_eq_true rfl⟩ ?_
    rw [if_neg (show ¬ nI (2 * zL σ a) < nI (zL σ a) from nI_nlt (by omega) (by omega))]
    refine zw_copyI dJ7_copyOf_59c91_28 zacJ7_150 (zK_old hw rfl hk (by decide)) (show zK (znA1 σ 0 (2 * zL σ a)) (zn σ) = 100 by rw [zK_znA1, if_pos rfl]) hp hw.1 (by decide) (by decide) (nI_pos (by omega)) (by rw [nI_clamp (by omega), zL_znA1, if_neg hne]; show 0 + _ ≤ _; omega) (by rw [nI_clamp (by omega), zL_znA1, if_pos rfl]; show 0 + _ ≤ _; omega) ⟨Nat.le_of_ble_eq_true rfl, Nat.le_of_ble_eq_true rfl⟩ ?_
    refine zw_aload_n dJ7_copyOf_59c91_31 rfl ?_
    refine zw_aret dJ7_copyOf_59c91_32 rfl (Or.inr ⟨_, rfl⟩) ?_
    refine ⟨rfl, ?_⟩
    rw [nI_clamp (by omega)]
    unfold xCpy
    congr 1
    have e1 : zI (znA1 σ 0 (2 * zL σ a)) a = zI σ a := funext fun j => by rw [zI_znA1, if_neg hne]
    have e2 : zI (znA1 σ 0 (2 * zL σ a)) (zn σ) = fun _ => 0 := funext fun j => by rw [zI_znA1, if_pos rfl]
    rw [e1, e2]
    rfl
  · exact absurd c3 (fun e => by have := (nI_eq (by omega) (by omega)).mp e; omega)
set_option maxHeartbeats 4000000 in
set_option maxRecDepth 100000 in
theorem lp_fill {l : Launch} {a L : Nat} (h2 : L < 2 ^ 31) (hp : 0 < a) (x : Int32) {uc us : Nat} {R : Room} {Q : Option Value → zS → Prop} : ∀ (d i : Nat) (σ : zS), i + d = L → zK σ a = 100 → zL σ a = L → Q none (zsW σ a (fun j => if i ≤ j ∧ j < L then x else zI σ a j)) → zAW l zmJ7_fill_53178 R 5 [(0, .ref a), (1, .int x), (2, .int (nI i)), (3, .int (nI L))] [] σ uc us Q := by
  intro d
  induction d with
  | zero =>
    intro i σ hi hk hL hq
    have hi : i = L := hi
    subst hi
    refine zw_iload_n dJ7_fill_53178_5 rfl ?_
    refine zw_iload_n dJ7_fill_53178_6 rfl ?_
    refine zw_icmpge (tgt := 20) dJ7_fill_53178_7 (by decide) (fun c7 => ?_) (fun c7 => ?_)
    · refine zw_vret dJ7_fill_53178_20 rfl ?_
      have e : zsW σ a (fun j => if i ≤ j ∧ j < i then x else zI σ a j) = σ := by
        unfold zsW
        have : (fun a' i' => if a' = a then (if i ≤ i' ∧ i' < i then x else zI σ a i') else zI σ a' i') = zI σ := by
          funext a' i'
          by_cases q : a' = a
          · subst q
            rw [if_pos rfl, if_neg (by omega)]
          · rw [if_neg q]
        rw [this]
        rfl
      rw [e] at hq
      exact hq
    · exact absurd (nI_le (Nat.le_refl i) h2) c7
  | succ d ih =>
    intro i σ hi hk hL hq
    refine zw_iload_n dJ7_fill_53178_5 rfl ?_
    refine zw_iload_n dJ7_fill_53178_6 rfl ?_
    refine zw_icmpge (tgt := 20) dJ7_fill_53178_7 (by decide) (fun c7 => ?_) (fun c7 => ?_)
    · exact absurd c7 (nI_ge (show i < L by omega) h2)
    · refine zw_aload_n dJ7_fill_53178_10 rfl ?_
      refine zw_iload_n dJ7_fill_53178_11 rfl ?_
      refine zw_iload_n dJ7_fill_53178_12 rfl ?_
      refine zw_iastore dJ7_fill_53178_13 hk hp (by rw [hL]; exact vp_in_nI (by omega) h2) ?_
      refine zw_iinc dJ7_fill_53178_14 rfl (by decide) rfl ?_
      refine zw_goto (tgt := 5) dJ7_fill_53178_17 (by decide) ?_
      refine zw_loc (lc' := [(0, .ref a), (1, .int x), (2, .int (nI i + 1)), (3, .int (nI L))]) (zsub_cons rfl (zsub_cons rfl (zsub_cons rfl (zsub_cons rfl zsub_nil)))) ?_
      rw [nI_clamp (by omega), nI_1]
      refine ih (i + 1) (zsI σ a i x) (by omega) hk hL ?_
      have e : zsW (zsI σ a i x) a (fun j => if i + 1 ≤ j ∧ j < L then x else zI (zsI σ a i x) a j) = zsW σ a (fun j => if i ≤ j ∧ j < L then x else zI σ a j) := by
        unfold zsW
        have : (fun a' i' => if a' = a then (if i + 1 ≤ i' ∧ i' < L then x else zI (zsI σ a i x) a i') else zI (zsI σ a i x) a' i') = (fun a' i' => if a' = a then (if i ≤ i' ∧ i' < L then x else zI σ a i') else zI σ a' i') := by
          funext a' i'
          rw [zI_zsI, zI_zsI]
          by_cases q : a' = a
          · subst q
            rw [if_pos rfl, if_pos rfl]
            by_cases q1 : i' = i
            · subst q1
              rw [if_neg (by omega), if_pos ⟨rfl, rfl⟩, if_pos (by omega)]
            · by_cases q2 : i + 1 ≤ i' ∧ i' < L
              · rw [if_pos q2, if_pos (by omega)]
              · rw [if_neg q2, if_neg (fun z => q1 z.2), if_neg (by omega)]
          · rw [if_neg q, if_neg q, if_neg (fun z => q z.1)]
        rw [this]
        rfl
      rw [e]
      exact hq
set_option maxHeartbeats 4000000 in
set_option maxRecDepth 100000 in
theorem c_J7_fill_53178 {l : Launch} {σ : zS} {a L : Nat} (hk : zK σ a = 100) (hp : 0 < a) (hL : zL σ a = L) (h2 : L < 2 ^ 31) (x : Int32) : zAM l zmJ7_fill_53178 0 0 0 0 [.ref a, .int x] σ (fun v σ' => v = none ∧ σ' = zsW σ a (fun j => if 0 ≤ j ∧ j < L then x else zI σ a j)) := by
  refine zAM.of (by decide +kernel) (Nat.le_of_ble_eq_true rfl) ?_
  refine zw_iconst (x := 0) dJ7_fill_53178_0 rfl ?_
  refine zw_istore_n dJ7_fill_53178_1 (by decide) rfl ?_
  refine zw_aload_n dJ7_fill_53178_2 rfl ?_
  refine zw_alen (t := 0) dJ7_fill_53178_3 hk (by decide) ?_
  refine zw_istore_n dJ7_fill_53178_4 (by decide) rfl ?_
  rw [hL]
  refine zw_loc (lc' := [(0, .ref a), (1, .int x), (2, .int (nI 0)), (3, .int (nI L))]) (zsub_cons rfl (zsub_cons rfl (zsub_cons rfl (zsub_cons rfl zsub_nil)))) ?_
  exact lp_fill h2 hp x L 0 σ (Nat.zero_add L) hk hL ⟨rfl, rfl⟩
end
section
/-! one step added -/
/-- the step T laid, of the state s, to the state g -/
def xAdd (σ : zS) (pk T g : Nat) (mov : Int32) (s : Nat) : zS := zsI (zsF (zsI σ pk T (mov ||| nI g)) 3 9 8 (nI (T + 1))) 13 s (zI σ 13 s ||| xTk mov)
/-- the row of steps doubled -/
def xGrow (σ : zS) (pk : Nat) : zS := zsG (xCpy σ pk) 3 7 8 (some (zn σ))
/-- the number of the state with a key, where it is there or is made: g, and the heap then -/
def xNum (σ : zS) (k : Int32) (s n g : Nat) (σ1 : zS) : Prop := ∃ t, xProbe σ k 1024 (xHash k) = t ∧ ((¬ zI σ 15 t < 0 ∧ zI σ 15 t = nI g ∧ σ1 = σ) ∨ (zI σ 15 t < 0 ∧ n < 400 ∧ g = n ∧ σ1 = xNew σ k t s (zI σ 10 s + 1) n))
theorem xNum.sh {σ σ1 : zS} {k : Int32} {s n g : Nat} (h : xNum σ k s n g σ1) (hs : xSh σ) : xSh σ1 := by
  obtain ⟨t, -, ⟨-, -, rfl⟩ | ⟨-, -, -, rfl⟩⟩ := h
  · exact hs
  · exact hs
theorem xNum.pk {σ σ1 : zS} {k : Int32} {s n g pk : Nat} (h : xNum σ k s n g σ1) (hs : xPk σ pk) : xPk σ1 pk := by
  obtain ⟨t, -, ⟨-, -, rfl⟩ | ⟨-, -, -, rfl⟩⟩ := h
  · exact hs
  · exact hs
theorem xNum.len {σ σ1 : zS} {k : Int32} {s n g : Nat} (h : xNum σ k s n g σ1) (a : Nat) : zL σ1 a = zL σ a := by
  obtain ⟨t, -, ⟨-, -, rfl⟩ | ⟨-, -, -, rfl⟩⟩ := h
  · rfl
  · rfl
theorem xNum.T {σ σ1 : zS} {k : Int32} {s n g : Nat} (h : xNum σ k s n g σ1) : xT σ1 = xT σ := by
  obtain ⟨t, -, ⟨-, -, rfl⟩ | ⟨-, -, -, rfl⟩⟩ := h
  · rfl
  · unfold xT xNew
    rw [zF_zsF, if_neg (by decide), zF_zsI, zF_zsI, zF_zsI, zF_zsI, zF_zsI]
theorem xPk_ne {σ : zS} {pk : Nat} (h : xPk σ pk) {a : Nat} (ha : a < 16) : a ≠ pk := by rcases h.2.2 with e | e <;> omega
theorem xGrow_sh {σ : zS} (hw : zWF σ) (h : xSh σ) (pk : Nat) : xSh (xGrow σ pk) := by
  refine h.mono (fun a ha => ?_) (fun a ha => ?_) (fun c k a ha hck => ?_)
  · have hne : a ≠ zn σ := fun e => ha (by rw [e]; exact hw.2.2 _ (Nat.le_refl _))
    show (if a = zn σ then 100 + 0 else zK σ a) = zK σ a
    rw [if_neg hne]
  · have hne : a ≠ zn σ := fun e => ha (by rw [e]; exact hw.2.2 _ (Nat.le_refl _))
    show (if a = zn σ then 2 * zL σ pk else zL σ a) = zL σ a
    rw [if_neg hne]
  · unfold xGrow
    rw [zG_zsG, if_neg (fun q => hck ⟨q.1, q.2.1⟩)]
    rfl
theorem xGrow_pk {σ : zS} (hw : zWF σ) (h : xSh σ) (pk : Nat) : xPk (xGrow σ pk) (zn σ) := by
  refine ⟨?_, ?_, Or.inr ?_⟩
  · unfold xGrow
    rw [zG_zsG, if_pos ⟨rfl, rfl, rfl⟩]
  · show (if zn σ = zn σ then 100 + 0 else zK σ (zn σ)) = 100
    rw [if_pos rfl]
  · have := zWF_lt hw (xk_29 h) (by decide)
    omega
theorem xGrow_len (σ : zS) (pk : Nat) : zL (xGrow σ pk) (zn σ) = 2 * zL σ pk := by
  show (if zn σ = zn σ then 2 * zL σ pk else zL σ (zn σ)) = _
  rw [if_pos rfl]
theorem xGrow_T (σ : zS) (pk : Nat) : xT (xGrow σ pk) = xT σ := rfl
set_option maxHeartbeats 4000000 in
set_option maxRecDepth 100000 in
theorem c_X3_addStep_in {l : Launch} {σ : zS} (h : xSh σ) (hsl : xSl σ) {pk n s T g : Nat} {σ1 : zS} {k mov : Int32} (hpk : xPk σ pk) (hn : xS σ = nI n) (hn4 : n ≤ 400) (hs : s < 400) (hT : xT σ = nI T) (hnum : xNum σ k s n g σ1) (hgl : g < 400) (hL : T < zL σ pk) (hL2 : zL σ pk < 2 ^ 31) : zAM l zmX3_addStep 2 62 0 0 [.ref 8, .int (nI s), .int k, .int mov] σ (fun v σ' => v = none ∧ σ' = xAdd σ1 pk T g mov s) := by
  refine zAM.of (by decide +kernel) (Nat.le_of_ble_eq_true rfl) ?_
  obtain ⟨t, ht, hg⟩ := id hnum
  have h1 := hnum.sh h
  have hpk1 := hnum.pk hpk
  have hL1 := hnum.len pk
  have hT1 := hnum.T.trans hT
  have hv1 : (if zI σ 15 t < 0 then (if n < 400 then nI n else -1) else zI σ 15 t) = nI g := by
    rcases hg with ⟨q1, q2, q3⟩ | ⟨q1, q2, q3, q4⟩
    · rw [if_neg q1]; exact q2
    · rw [if_pos q1, if_pos q2, q3]
  have hs1 : (if zI σ 15 t < 0 then (if n < 400 then xNew σ k t s (zI σ 10 s + 1) n else σ) else σ) = σ1 := by
    rcases hg with ⟨q1, q2, q3⟩ | ⟨q1, q2, q3, q4⟩
    · rw [if_neg q1]; exact q3.symm
    · rw [if_pos q1, if_pos q2]; exact q4.symm
  refine zw_aload_n dX3_addStep_0 rfl ?_
  refine zw_iload_n dX3_addStep_1 rfl ?_
  refine zw_iload_n dX3_addStep_2 rfl ?_
  refine zw_callV (y' := zmX3_numberOf) dX3_addStep_3 zlX3_124 zmX3_numberOf_ok (xk_8 h) (by decide) rfl (c_X3_numberOf h hsl hn hn4 hs k ht) rfl rfl (Nat.le_of_ble_eq_true rfl) ⟨Nat.le_of_ble_eq_true rfl, Nat.le_of_ble_eq_true rfl⟩ ⟨Nat.le_of_ble_eq_true rfl, Nat.le_of_ble_eq_true rfl⟩ ?_
  intro v3 s3 q3
  obtain ⟨rfl, rfl⟩ := q3
  rw [hv1, hs1]
  refine zw_istore dX3_addStep_6 (by decide) rfl ?_
  refine zw_iload dX3_addStep_8 rfl ?_
  refine zw_ifge (tgt := 19) dX3_addStep_10 (by decide) (fun c10 => ?_) (fun c10 => ?_)
  · refine zw_aload_n dX3_addStep_19 rfl ?_
    refine zw_getI dX3_addStep_20 zfX3_44 rfl (xk_8 h1) (by decide) ?_
    refine zw_aload_n dX3_addStep_23 rfl ?_
    refine zw_getR dX3_addStep_24 zfX3_33 rfl (xk_8 h1) (by decide) hpk1.1 ?_
    refine zw_alen (t := 0) dX3_addStep_27 (hpk1.2.1) (by decide) ?_
    refine zw_icmplt (tgt := 54) dX3_addStep_28 (by decide) (fun c28 => ?_) (fun c28 => ?_)
    · refine zw_aload_n dX3_addStep_54 rfl ?_
      refine zw_getR dX3_addStep_55 zfX3_33 rfl (xk_8 h1) (by decide) hpk1.1 ?_
      refine zw_aload_n dX3_addStep_58 rfl ?_
      refine zw_getI dX3_addStep_59 zfX3_44 rfl (xk_8 h1) (by decide) ?_
      refine zw_iload_n dX3_addStep_62 rfl ?_
      refine zw_iload dX3_addStep_63 rfl ?_
      refine zw_ior dX3_addStep_65 ?_
      refine zw_iastore dX3_addStep_66 (hpk1.2.1) (xPk_pos hpk1) (by rw [show zF σ1 3 9 8 = nI T from hT1]; exact vp_in_nI (by omega) (by omega)) ?_
      refine zw_aload_n dX3_addStep_67 rfl ?_
      refine zw_dup dX3_addStep_68 rfl ?_
      refine zw_getI dX3_addStep_69 zfX3_44 rfl (xk_8 h1) (by decide) ?_
      refine zw_iconst (x := 1) dX3_addStep_72 rfl ?_
      refine zw_iadd dX3_addStep_73 ?_
      refine zw_putI dX3_addStep_74 zfX3_44 rfl rfl ⟨rfl, rfl⟩ (xk_8 h1) (by decide) ?_
      refine zw_aload_n dX3_addStep_77 rfl ?_
      refine zw_getR dX3_addStep_78 zfX3_24 rfl (xk_8 h1) (by decide) (xg_3_4 h1) ?_
      refine zw_iload_n dX3_addStep_81 rfl ?_
      refine zw_dup2 dX3_addStep_82 rfl rfl ?_
      refine zw_iaload dX3_addStep_83 (xk_13 h1) (zin_of (xl_13 h1) (vp_in_nI (by omega) (by omega))) ?_
      refine zw_iload_n dX3_addStep_84 rfl ?_
      refine zw_callS (y' := zmX3_takersOf) dX3_addStep_85 zlX3_137 zmX3_takersOf_ok (c_X3_takersOf _) rfl rfl (Nat.le_of_ble_eq_true rfl) ⟨Nat.le_of_ble_eq_true rfl, Nat.le_of_ble_eq_true rfl⟩ ⟨Nat.le_of_ble_eq_true rfl, Nat.le_of_ble_eq_true rfl⟩ ?_
      intro v85 s85 q85
      obtain ⟨rfl, rfl⟩ := q85
      refine zw_ior dX3_addStep_88 ?_
      refine zw_iastore dX3_addStep_89 (xk_13 h1) (by decide) (zin_of (xl_13 h1) (vp_in_nI (by omega) (by omega))) ?_
      refine zw_vret dX3_addStep_90 rfl ?_
      refine ⟨rfl, ?_⟩
      unfold xAdd
      simp only [show zF σ1 3 9 8 = nI T from hT1, nI_clamp (show T < 2 ^ 31 by omega), nI_clamp (show s < 2 ^ 31 by omega), nI_1, zF_zsI, zI_zsF, zI_zsI, if_neg (show ¬ (13 = pk ∧ s = T) from fun q => xPk_ne hpk (by decide) q.1)]
    · exfalso
      rw [show zF σ1 3 9 8 = nI T from hT1, hL1] at c28
      exact c28 (nI_lt hL hL2)
  · exact absurd (nI_pos' (show g < 2 ^ 31 by omega)) c10
set_option maxHeartbeats 4000000 in
set_option maxRecDepth 100000 in
theorem c_X3_addStep_grow {l : Launch} {σ : zS} (h : xSh σ) (hsl : xSl σ) {pk n s T g : Nat} {σ1 : zS} {k mov : Int32} (hpk : xPk σ pk) (hn : xS σ = nI n) (hn4 : n ≤ 400) (hs : s < 400) (hT : xT σ = nI T) (hnum : xNum σ k s n g σ1) (hgl : g < 400) (hL : T = zL σ pk) (hL0 : 1 ≤ zL σ pk) (hL2 : zL σ pk ≤ 512000) : zAM l zmX3_addStep 2 62 1 (2 * zL σ pk) [.ref 8, .int (nI s), .int k, .int mov] σ (fun v σ' => v = none ∧ σ' = xAdd (xGrow σ1 pk) (zn σ1) T g mov s) := by
  refine zAM.of (by decide +kernel) (Nat.le_of_ble_eq_true rfl) ?_
  obtain ⟨t, ht, hg⟩ := id hnum
  have h1 := hnum.sh h
  have hpk1 := hnum.pk hpk
  have hL1 := hnum.len pk
  have hT1 := hnum.T.trans hT
  have hv1 : (if zI σ 15 t < 0 then (if n < 400 then nI n else -1) else zI σ 15 t) = nI g := by
    rcases hg with ⟨q1, q2, q3⟩ | ⟨q1, q2, q3, q4⟩
    · rw [if_neg q1]; exact q2
    · rw [if_pos q1, if_pos q2, q3]
  have hs1 : (if zI σ 15 t < 0 then (if n < 400 then xNew σ k t s (zI σ 10 s + 1) n else σ) else σ) = σ1 := by
    rcases hg with ⟨q1, q2, q3⟩ | ⟨q1, q2, q3, q4⟩
    · rw [if_neg q1]; exact q3.symm
    · rw [if_pos q1, if_pos q2]; exact q4.symm
  have hL3 := xGrow_len σ1 pk
  have hT2 : xT (xGrow σ1 pk) = nI T := (xGrow_T σ1 pk).trans hT1
  refine zw_aload_n dX3_addStep_0 rfl ?_
  refine zw_iload_n dX3_addStep_1 rfl ?_
  refine zw_iload_n dX3_addStep_2 rfl ?_
  refine zw_callV (y' := zmX3_numberOf) dX3_addStep_3 zlX3_124 zmX3_numberOf_ok (xk_8 h) (by decide) rfl (c_X3_numberOf h hsl hn hn4 hs k ht) rfl rfl (Nat.le_of_ble_eq_true rfl) ⟨Nat.le_of_ble_eq_true rfl, Nat.le_of_ble_eq_true rfl⟩ ⟨Nat.le_of_ble_eq_true rfl, Nat.le_of_ble_eq_true rfl⟩ ?_
  intro v3 s3 q3
  obtain ⟨rfl, rfl⟩ := q3
  rw [hv1, hs1]
  refine zw_istore dX3_addStep_6 (by decide) rfl ?_
  refine zw_iload dX3_addStep_8 rfl ?_
  refine zw_ifge (tgt := 19) dX3_addStep_10 (by decide) (fun c10 => ?_) (fun c10 => ?_)
  · refine zw_wf (fun hw1 => ?_)
    have h2 : xSh (xGrow σ1 pk) := xGrow_sh hw1 h1 pk
    have hpk2 : xPk (xGrow σ1 pk) (zn σ1) := xGrow_pk hw1 h1 pk
    refine zw_aload_n dX3_addStep_19 rfl ?_
    refine zw_getI dX3_addStep_20 zfX3_44 rfl (xk_8 h1) (by decide) ?_
    refine zw_aload_n dX3_addStep_23 rfl ?_
    refine zw_getR dX3_addStep_24 zfX3_33 rfl (xk_8 h1) (by decide) hpk1.1 ?_
    refine zw_alen (t := 0) dX3_addStep_27 (hpk1.2.1) (by decide) ?_
    refine zw_icmplt (tgt := 54) dX3_addStep_28 (by decide) (fun c28 => ?_) (fun c28 => ?_)
    · exfalso
      rw [show zF σ1 3 9 8 = nI T from hT1, hL1, ← hL] at c28
      exact absurd (Int32.lt_iff_toInt_lt.mp c28) (Int.lt_irrefl _)
    · refine zw_aload_n dX3_addStep_31 rfl ?_
      refine zw_aload_n dX3_addStep_32 rfl ?_
      refine zw_getR dX3_addStep_33 zfX3_33 rfl (xk_8 h1) (by decide) hpk1.1 ?_
      refine zw_aload_n dX3_addStep_36 rfl ?_
      refine zw_getR dX3_addStep_37 zfX3_33 rfl (xk_8 h1) (by decide) hpk1.1 ?_
      refine zw_alen (t := 0) dX3_addStep_40 (hpk1.2.1) (by decide) ?_
      refine zw_iconst (x := 2) dX3_addStep_41 rfl ?_
      refine zw_imul dX3_addStep_42 ?_
      rw [show nI (zL σ1 pk) * 2 = nI (2 * zL σ1 pk) by rw [show (2 : Int32) = nI 2 from rfl, pk_mul, Nat.mul_comm]]
      refine zw_ldc (x := 1024000) dX3_addStep_43 zkX3_127 ?_
      refine zw_min dX3_addStep_45 zminX3_128 ⟨Nat.le_of_ble_eq_true rfl, Nat.le_of_ble_eq_true rfl⟩ ?_
      rw [show (1024000 : Int32) = nI 1024000 from by decide, if_neg (show ¬ nI 1024000 < nI (2 * zL σ1 pk) from fun q => absurd ((nI_ltI (by decide) (by rw [hL1]; omega)).mp q) (by rw [hL1]; omega))]
      refine zw_callS (y' := zmJ7_copyOf_59c91) dX3_addStep_48 zlX3_133 zmJ7_copyOf_59c91_ok (c_J7_copyOf_59c91 (a := pk) hpk1.2.1 (xPk_pos hpk1) (by rw [hL1]; exact hL0) (by rw [hL1]; omega)) rfl rfl (Nat.le_of_ble_eq_true rfl) ⟨Nat.le_of_ble_eq_true rfl, Nat.le_of_ble_eq_true rfl⟩ ⟨Nat.le_of_eq (Nat.zero_add _), by rw [hL1]; exact Nat.le_of_eq (Nat.zero_add _)⟩ ?_
      intro v48 s48 q48
      obtain ⟨rfl, rfl⟩ := q48
      
      refine zw_putO dX3_addStep_51 zfX3_33 rfl (Or.inl rfl) (zK_old hw1 rfl (xk_8 h1) (by decide)) (by decide) ?_
      show zAW _ _ _ _ _ _ (xGrow σ1 pk) _ _ _
      rw [hL1]
      refine zw_aload_n dX3_addStep_54 rfl ?_
      refine zw_getR dX3_addStep_55 zfX3_33 rfl (xk_8 h2) (by decide) hpk2.1 ?_
      refine zw_aload_n dX3_addStep_58 rfl ?_
      refine zw_getI dX3_addStep_59 zfX3_44 rfl (xk_8 h2) (by decide) ?_
      refine zw_iload_n dX3_addStep_62 rfl ?_
      refine zw_iload dX3_addStep_63 rfl ?_
      refine zw_ior dX3_addStep_65 ?_
      refine zw_iastore dX3_addStep_66 (hpk2.2.1) (xPk_pos hpk2) (by rw [show zF (xGrow σ1 pk) 3 9 8 = nI T from hT2, hL3, hL1]; exact vp_in_nI (by omega) (by omega)) ?_
      refine zw_aload_n dX3_addStep_67 rfl ?_
      refine zw_dup dX3_addStep_68 rfl ?_
      refine zw_getI dX3_addStep_69 zfX3_44 rfl (xk_8 h2) (by decide) ?_
      refine zw_iconst (x := 1) dX3_addStep_72 rfl ?_
      refine zw_iadd dX3_addStep_73 ?_
      refine zw_putI dX3_addStep_74 zfX3_44 rfl rfl ⟨rfl, rfl⟩ (xk_8 h2) (by decide) ?_
      refine zw_aload_n dX3_addStep_77 rfl ?_
      refine zw_getR dX3_addStep_78 zfX3_24 rfl (xk_8 h2) (by decide) (xg_3_4 h2) ?_
      refine zw_iload_n dX3_addStep_81 rfl ?_
      refine zw_dup2 dX3_addStep_82 rfl rfl ?_
      refine zw_iaload dX3_addStep_83 (xk_13 h2) (zin_of (xl_13 h2) (vp_in_nI (by omega) (by omega))) ?_
      refine zw_iload_n dX3_addStep_84 rfl ?_
      refine zw_callS (y' := zmX3_takersOf) dX3_addStep_85 zlX3_137 zmX3_takersOf_ok (c_X3_takersOf _) rfl rfl (Nat.le_of_ble_eq_true rfl) ⟨Nat.le_of_ble_eq_true rfl, Nat.le_of_ble_eq_true rfl⟩ ⟨Nat.le_of_ble_eq_true rfl, by show 0 + 0 + 2 * zL σ pk + 0 ≤ 2 * zL σ pk; omega⟩ ?_
      intro v85 s85 q85
      obtain ⟨rfl, rfl⟩ := q85
      refine zw_ior dX3_addStep_88 ?_
      refine zw_iastore dX3_addStep_89 (xk_13 h2) (by decide) (zin_of (xl_13 h2) (vp_in_nI (by omega) (by omega))) ?_
      refine zw_vret dX3_addStep_90 rfl ?_
      refine ⟨rfl, ?_⟩
      show _ = xAdd (xGrow σ1 pk) (zn σ1) T g mov s
      unfold xAdd
      simp only [show zF (xGrow σ1 pk) 3 9 8 = nI T from hT2, nI_clamp (show T < 2 ^ 31 by omega), nI_clamp (show s < 2 ^ 31 by omega), nI_1, zF_zsI, zI_zsF, zI_zsI, if_neg (show ¬ (13 = zn σ1 ∧ s = T) from fun q => xPk_ne hpk2 (by decide) q.1)]
  · exact absurd (nI_pos' (show g < 2 ^ 31 by omega)) c10
set_option maxHeartbeats 4000000 in
set_option maxRecDepth 100000 in
theorem c_X3_addStep_full {l : Launch} {σ : zS} (h : xSh σ) (hsl : xSl σ) {s : Nat} {k mov : Int32} (hn : xS σ = nI 400) (hs : s < 400) {t : Nat} (ht : xProbe σ k 1024 (xHash k) = t) (hf : zI σ 15 t < 0) : zAM l zmX3_addStep 2 62 0 0 [.ref 8, .int (nI s), .int k, .int mov] σ (fun v σ' => v = none ∧ σ' = zsF σ 3 10 8 1) := by
  refine zAM.of (by decide +kernel) (Nat.le_of_ble_eq_true rfl) ?_
  refine zw_aload_n dX3_addStep_0 rfl ?_
  refine zw_iload_n dX3_addStep_1 rfl ?_
  refine zw_iload_n dX3_addStep_2 rfl ?_
  refine zw_callV (y' := zmX3_numberOf) dX3_addStep_3 zlX3_124 zmX3_numberOf_ok (xk_8 h) (by decide) rfl (c_X3_numberOf h hsl hn (Nat.le_refl 400) hs k ht) rfl rfl (Nat.le_of_ble_eq_true rfl) ⟨Nat.le_of_ble_eq_true rfl, Nat.le_of_ble_eq_true rfl⟩ ⟨Nat.le_of_ble_eq_true rfl, Nat.le_of_ble_eq_true rfl⟩ ?_
  intro v3 s3 q3
  obtain ⟨rfl, rfl⟩ := q3
  rw [if_pos hf, if_pos hf, if_neg (by decide), if_neg (by decide)]
  refine zw_istore dX3_addStep_6 (by decide) rfl ?_
  refine zw_iload dX3_addStep_8 rfl ?_
  refine zw_ifge (tgt := 19) dX3_addStep_10 (by decide) (fun c10 => ?_) (fun c10 => ?_)
  · exact absurd c10 (by decide)
  · refine zw_aload_n dX3_addStep_13 rfl ?_
    refine zw_iconst (x := 1) dX3_addStep_14 rfl ?_
    refine zw_putI dX3_addStep_15 zfX3_47 rfl rfl ⟨rfl, rfl⟩ (xk_8 h) (by decide) ?_
    refine zw_vret dX3_addStep_18 rfl ?_
    exact ⟨rfl, rfl⟩
end
section
/-! one step added, as a function of the heap -/
def xPkOf (σ : zS) : Nat := (zG σ 3 7 8).getD 0
def xLen (σ : zS) : Nat := zL σ (xPkOf σ)
def xSlot (σ : zS) (k : Int32) : Nat := xProbe σ k 1024 (xHash k)
/-- no such state yet -/
def xIsNew (σ : zS) (k : Int32) : Prop := zI σ 15 (xSlot σ k) < 0
/-- the number of the state with a key -/
def xGo (σ : zS) (k : Int32) : Nat := if zI σ 15 (xSlot σ k) < 0 then (xS σ).toNatClampNeg else (zI σ 15 (xSlot σ k)).toNatClampNeg
/-- the heap with the state made, if there was none -/
def xMk (σ : zS) (s : Nat) (k : Int32) : zS := if zI σ 15 (xSlot σ k) < 0 then xNew σ k (xSlot σ k) s (zI σ 10 s + 1) (xS σ).toNatClampNeg else σ
def xStp (σ : zS) (s : Nat) (k mov : Int32) : zS :=
  if zI σ 15 (xSlot σ k) < 0 ∧ ¬ xS σ < 400 then zsF σ 3 10 8 1
  else if (xT σ).toNatClampNeg < xLen σ then xAdd (xMk σ s k) (xPkOf σ) (xT σ).toNatClampNeg (xGo σ k) mov s
  else xAdd (xGrow (xMk σ s k) (xPkOf σ)) (zn σ) (xT σ).toNatClampNeg (xGo σ k) mov s
/-- what holds while it explores: n states, T steps, the row of steps at pk, each state's slot by po -/
def xI (σ : zS) (pk n T : Nat) (po : Nat → Nat) : Prop :=
  xSh σ ∧ xPk σ pk ∧ xHs σ n po ∧ xS σ = nI n ∧ n ≤ 400 ∧ xT σ = nI T ∧ T ≤ zL σ pk ∧ 1 ≤ zL σ pk ∧ (zL σ pk ≤ 2048 ∨ zL σ pk ≤ 2 * T) ∧ zWF σ
theorem xPkOf_eq {σ : zS} {pk : Nat} (h : xPk σ pk) : xPkOf σ = pk := by
  unfold xPkOf
  rw [h.1]
  rfl
theorem nI_lt_lit {n : Nat} {c : Nat} (hn : n < 2 ^ 31) (hc : c < 2 ^ 31) : nI n < nI c ↔ n < c := nI_ltI hn hc
theorem xMk_zn (σ : zS) (s : Nat) (k : Int32) : zn (xMk σ s k) = zn σ := by
  unfold xMk
  split <;> rfl
theorem xGrow_zn (σ : zS) (pk : Nat) : zn (xGrow σ pk) = zn σ + 1 := rfl
theorem xAdd_zn (σ : zS) (pk T g : Nat) (mov : Int32) (s : Nat) : zn (xAdd σ pk T g mov s) = zn σ := rfl
/-- the three ways -/
theorem xStp_way {σ : zS} {pk n T : Nat} {po : Nat → Nat} (h : xI σ pk n T po) (hT : T < 2 ^ 31) (s : Nat) (k mov : Int32) :
    (n = 400 ∧ zI σ 15 (xSlot σ k) < 0 ∧ xStp σ s k mov = zsF σ 3 10 8 1) ∨
    (∃ g, g < 400 ∧ xNum σ k s n g (xMk σ s k) ∧ xGo σ k = g ∧ ((T < zL σ pk ∧ xStp σ s k mov = xAdd (xMk σ s k) pk T g mov s) ∨ (T = zL σ pk ∧ xStp σ s k mov = xAdd (xGrow (xMk σ s k) pk) (zn (xMk σ s k)) T g mov s))) := by
  obtain ⟨h1, h2, h3, h4, h5, h6, h7, h8, h9, h10⟩ := h
  have e1 : (xS σ).toNatClampNeg = n := by rw [h4]; exact nI_clamp (by omega)
  have e2 : (xT σ).toNatClampNeg = T := by rw [h6]; exact nI_clamp hT
  have e3 : xPkOf σ = pk := xPkOf_eq h2
  have e4 : xS σ < 400 ↔ n < 400 := by rw [h4]; exact nI_lt_lit (by omega) (by decide)
  by_cases hw : zI σ 15 (xSlot σ k) < 0
  · by_cases hn : n < 400
    · refine Or.inr ⟨n, hn, ⟨_, rfl, Or.inr ⟨hw, hn, rfl, ?_⟩⟩, ?_, ?_⟩
      · unfold xMk
        rw [if_pos hw, e1]
        rfl
      · unfold xGo
        rw [if_pos hw, e1]
      · have hc : ¬ (zI σ 15 (xSlot σ k) < 0 ∧ ¬ xS σ < 400) := fun q => q.2 (e4.mpr hn)
        unfold xStp xLen
        rw [if_neg hc, e2, e3, show xGo σ k = n by unfold xGo; rw [if_pos hw, e1], xMk_zn]
        by_cases hl : T < zL σ pk
        · exact Or.inl ⟨hl, if_pos hl⟩
        · exact Or.inr ⟨by omega, if_neg hl⟩
    · refine Or.inl ⟨by omega, hw, ?_⟩
      unfold xStp
      rw [if_pos ⟨hw, fun q => hn (e4.mp q)⟩]
  · have hsl : zI σ 15 (xSlot σ k) < 0 ∨ ∃ s, s < 400 ∧ zI σ 15 (xSlot σ k) = nI s := h3.sl h5 _ (xProbe_lt σ k 1024 _ (xHash_lt k))
    obtain ⟨g, hg, hg2⟩ := hsl.resolve_left hw
    refine Or.inr ⟨g, hg, ⟨_, rfl, Or.inl ⟨hw, hg2, ?_⟩⟩, ?_, ?_⟩
    · unfold xMk
      rw [if_neg hw]
    · unfold xGo
      rw [if_neg hw, hg2, nI_clamp (by omega)]
    · have hc : ¬ (zI σ 15 (xSlot σ k) < 0 ∧ ¬ xS σ < 400) := fun q => hw q.1
      unfold xStp xLen
      rw [if_neg hc, e2, e3, show xGo σ k = g by unfold xGo; rw [if_neg hw, hg2, nI_clamp (by omega)], xMk_zn]
      by_cases hl : T < zL σ pk
      · exact Or.inl ⟨hl, if_pos hl⟩
      · exact Or.inr ⟨by omega, if_neg hl⟩
theorem xLen_add (σ : zS) (pk T g : Nat) (mov : Int32) (s : Nat) : xLen (xAdd σ pk T g mov s) = xLen σ := rfl
theorem xNum.lenO {σ σ1 : zS} {k : Int32} {s n g : Nat} (h : xNum σ k s n g σ1) : xLen σ1 = xLen σ := by
  obtain ⟨t, -, ⟨-, -, rfl⟩ | ⟨-, -, -, rfl⟩⟩ := h <;> rfl
theorem xNum.zn {σ σ1 : zS} {k : Int32} {s n g : Nat} (h : xNum σ k s n g σ1) : zn σ1 = zn σ := by
  obtain ⟨t, -, ⟨-, -, rfl⟩ | ⟨-, -, -, rfl⟩⟩ := h <;> rfl
theorem xNum.wf {σ σ1 : zS} {k : Int32} {s n g : Nat} (h : xNum σ k s n g σ1) (hw : zWF σ) : zWF σ1 := by
  obtain ⟨t, -, ⟨-, -, rfl⟩ | ⟨-, -, -, rfl⟩⟩ := h <;> exact hw
theorem xGrow_lenO {σ : zS} (hw : zWF σ) (h : xSh σ) (pk : Nat) : xLen (xGrow σ pk) = 2 * zL σ pk := by
  unfold xLen
  rw [xPkOf_eq (xGrow_pk hw h pk)]
  exact xGrow_len σ pk
theorem zWF_grow {σ : zS} (hw : zWF σ) (pk : Nat) : zWF (xGrow σ pk) := zWF_A1 hw 0 (2 * zL σ pk)
/-- the contract of a step -/
theorem c_X3_addStep {l : Launch} {σ : zS} {pk n T s : Nat} {po : Nat → Nat} {k mov : Int32} (h : xI σ pk n T po) (hT : T ≤ 512000) (hs : s < 400) : zAM l zmX3_addStep 2 62 (zn (xStp σ s k mov) - zn σ) (2 * (xLen (xStp σ s k mov) - xLen σ)) [.ref 8, .int (nI s), .int k, .int mov] σ (fun v σ' => v = none ∧ σ' = xStp σ s k mov) := by
  have hsl := h.2.2.1.sl h.2.2.2.2.1
  obtain ⟨h1, h2, h3, h4, h5, h6, h7, h8, h9, h10⟩ := id h
  rcases xStp_way h (by omega) s k mov with ⟨q1, q2, q3⟩ | ⟨g, q1, q2, q3, ⟨q4, q5⟩ | ⟨q4, q5⟩⟩
  · rw [q3, show zn (zsF σ 3 10 8 1) - zn σ = 0 from Nat.sub_self _, show 2 * (xLen (zsF σ 3 10 8 1) - xLen σ) = 0 by rw [show xLen (zsF σ 3 10 8 1) = xLen σ from rfl]; omega]
    exact c_X3_addStep_full h1 hsl (by rw [h4, q1]) hs rfl q2
  · rw [q5, xAdd_zn, q2.zn, Nat.sub_self, xLen_add, q2.lenO, Nat.sub_self]
    exact c_X3_addStep_in h1 hsl h2 h4 h5 hs h6 q2 q1 q4 (by omega)
  · rw [q5, xAdd_zn, xGrow_zn, q2.zn, xLen_add, xGrow_lenO (q2.wf h10) (q2.sh h1), q2.len pk, show zn σ + 1 - zn σ = 1 by omega, show xLen σ = zL σ pk by unfold xLen; rw [xPkOf_eq h2], show 2 * (2 * zL σ pk - zL σ pk) = 2 * zL σ pk by omega]
    have := c_X3_addStep_grow (l := l) h1 hsl h2 h4 h5 hs h6 (mov := mov) q2 q1 q4 h8 (by omega)
    rw [q2.zn] at this
    exact this
end
section
/-! what a step leaves as it was -/
/-- σ' is σ but for the state space's own numbers and rows (its row of steps at pk, then at pk') and for what is new -/
def xFr (σ σ' : zS) (pk pk' : Nat) : Prop :=
  zn σ ≤ zn σ' ∧ (pk' = pk ∨ zK σ pk' = 999) ∧ (∀ a, zK σ a ≠ 999 → zK σ' a = zK σ a) ∧ (∀ a, zK σ a ≠ 999 → zL σ' a = zL σ a) ∧ (∀ c k a, c ≠ 3 → zF σ' c k a = zF σ c k a) ∧
  (∀ c k a, zK σ a ≠ 999 → ¬ (c = 3 ∧ k = 7) → zG σ' c k a = zG σ c k a) ∧ (∀ a, zK σ a ≠ 999 → ¬ (9 ≤ a ∧ a ≤ 15) → a ≠ pk → zI σ' a = zI σ a) ∧ (∀ a, zK σ a ≠ 999 → zR σ' a = zR σ a) ∧ (∀ a, zK σ a ≠ 999 → zJ σ' a = zJ σ a)
theorem xFr.rf (σ : zS) (pk : Nat) : xFr σ σ pk pk := ⟨Nat.le_refl _, Or.inl rfl, fun _ _ => rfl, fun _ _ => rfl, fun _ _ _ _ => rfl, fun _ _ _ _ _ => rfl, fun _ _ _ _ => rfl, fun _ _ => rfl, fun _ _ => rfl⟩
theorem xFr.tr {σ σ1 σ2 : zS} {p p1 p2 : Nat} (h : xFr σ σ1 p p1) (h2 : xFr σ1 σ2 p1 p2) : xFr σ σ2 p p2 := by
  obtain ⟨a1, a2, a3, a4, a5, a6, a7, a8, a9⟩ := h
  obtain ⟨b1, b2, b3, b4, b5, b6, b7, b8, b9⟩ := h2
  have f : ∀ a, zK σ a ≠ 999 → zK σ1 a ≠ 999 := fun a h => by rw [a3 a h]; exact h
  refine ⟨Nat.le_trans a1 b1, ?_, fun a h => ?_, fun a h => ?_, fun c k a h => ?_, fun c k a h hc => ?_, fun a h hr hp => ?_, fun a h => ?_, fun a h => ?_⟩
  · rcases b2 with rfl | b2
    · exact a2
    · refine Or.inr ?_
      by_cases q : zK σ p2 = 999
      · exact q
      · exact absurd ((a3 p2 q).symm.trans b2) q
  · rw [b3 a (f a h), a3 a h]
  · rw [b4 a (f a h), a4 a h]
  · rw [b5 c k a h, a5 c k a h]
  · rw [b6 c k a (f a h) hc, a6 c k a h hc]
  · have hp1 : a ≠ p1 := by
      rcases a2 with e | e
      · rw [e]; exact hp
      · intro q
        rw [q] at h
        exact h e
    rw [b7 a (f a h) hr hp1, a7 a h hr hp]
  · rw [b8 a (f a h), a8 a h]
  · rw [b9 a (f a h), a9 a h]
/-- a heap whose numbers and rows alone differ -/
theorem xFr.upd {σ σ' : zS} {pk : Nat} (e0 : zn σ' = zn σ) (e1 : zK σ' = zK σ) (e2 : zL σ' = zL σ) (e3 : ∀ c k a, c ≠ 3 → zF σ' c k a = zF σ c k a) (e4 : zG σ' = zG σ) (e5 : ∀ a, ¬ (9 ≤ a ∧ a ≤ 15) → a ≠ pk → zI σ' a = zI σ a) (e6 : zR σ' = zR σ) (e7 : zJ σ' = zJ σ) : xFr σ σ' pk pk :=
  ⟨by rw [e0]; exact Nat.le_refl _, Or.inl rfl, fun a _ => by rw [e1], fun a _ => by rw [e2], e3, fun c k a _ _ => by rw [e4], fun a _ => e5 a, fun a _ => by rw [e6], fun a _ => by rw [e7]⟩
theorem xNew_fr (σ : zS) (k d : Int32) (t p n pk : Nat) : xFr σ (xNew σ k t p d n) pk pk := by
  refine xFr.upd rfl rfl rfl (fun c k' a hc => ?_) rfl (fun a h hp => funext fun j => ?_) rfl rfl
  · unfold xNew
    rw [zF_zsF, if_neg (fun q => hc q.1), zF_zsI, zF_zsI, zF_zsI, zF_zsI, zF_zsI]
  · unfold xNew
    rw [zI_zsF, zI_zsI, if_neg (by omega), zI_zsI, if_neg (by omega), zI_zsI, if_neg (by omega), zI_zsI, if_neg (by omega), zI_zsI, if_neg (by omega)]
theorem xNum.fr {σ σ1 : zS} {k : Int32} {s n g : Nat} (h : xNum σ k s n g σ1) (pk : Nat) : xFr σ σ1 pk pk := by
  obtain ⟨t, -, ⟨-, -, rfl⟩ | ⟨-, -, -, rfl⟩⟩ := h
  · exact xFr.rf _ pk
  · exact xNew_fr ..
theorem xAdd_fr (σ : zS) (pk T g : Nat) (mov : Int32) (s : Nat) : xFr σ (xAdd σ pk T g mov s) pk pk := by
  refine xFr.upd rfl rfl rfl (fun c k' a hc => ?_) rfl (fun a h hp => funext fun j => ?_) rfl rfl
  · unfold xAdd
    rw [zF_zsI, zF_zsF, if_neg (fun q => hc q.1), zF_zsI]
  · unfold xAdd
    rw [zI_zsI, if_neg (by omega), zI_zsF, zI_zsI, if_neg (fun q => hp q.1)]
theorem xGrow_fr {σ : zS} (hw : zWF σ) (pk : Nat) : xFr σ (xGrow σ pk) pk (zn σ) := by
  have hne : ∀ a, zK σ a ≠ 999 → a ≠ zn σ := fun a ha e => ha (by rw [e]; exact hw.2.2 _ (Nat.le_refl _))
  refine ⟨by rw [xGrow_zn]; omega, Or.inr (hw.2.2 _ (Nat.le_refl _)), fun a h => ?_, fun a h => ?_, fun c k a h => ?_, fun c k a h hc => ?_, fun a h hr hp => ?_, fun a h => ?_, fun a h => ?_⟩
  · show (if a = zn σ then 100 + 0 else zK σ a) = _
    rw [if_neg (hne a h)]
  · show (if a = zn σ then 2 * zL σ pk else zL σ a) = _
    rw [if_neg (hne a h)]
  · rfl
  · unfold xGrow
    rw [zG_zsG, if_neg (fun q => hc ⟨q.1, q.2.1⟩)]
    rfl
  · funext j
    show (if a = zn σ then _ else (if a = zn σ then 0 else zI σ a j)) = _
    rw [if_neg (hne a h), if_neg (hne a h)]
  · funext j
    show (if a = zn σ then none else zR σ a j) = _
    rw [if_neg (hne a h)]
  · funext j
    show (if a = zn σ then 0 else zJ σ a j) = _
    rw [if_neg (hne a h)]
theorem xAdd_T {σ : zS} {pk T g : Nat} {mov : Int32} {s : Nat} : xT (xAdd σ pk T g mov s) = nI (T + 1) := by
  unfold xT xAdd
  rw [zF_zsI, zF_zsF, if_pos ⟨rfl, rfl, rfl⟩]
theorem xAdd_S {σ : zS} {pk T g : Nat} {mov : Int32} {s : Nat} : xS (xAdd σ pk T g mov s) = xS σ := by
  unfold xS xAdd
  rw [zF_zsI, zF_zsF, if_neg (by decide), zF_zsI]
theorem xAdd_I {σ : zS} {pk T g : Nat} {mov : Int32} {s a : Nat} (h1 : a ≠ 13) (h2 : a ≠ pk) : zI (xAdd σ pk T g mov s) a = zI σ a := funext fun j => by
  unfold xAdd
  rw [zI_zsI, if_neg (fun q => h1 q.1), zI_zsF, zI_zsI, if_neg (fun q => h2 q.1)]
theorem xHs.congr {σ σ' : zS} {n : Nat} {po : Nat → Nat} (h : xHs σ n po) (e1 : zI σ' 9 = zI σ 9) (e2 : zI σ' 15 = zI σ 15) : xHs σ' n po := by
  unfold xHs at *
  rw [e1, e2]
  exact h
theorem xNew_S {σ : zS} {k d : Int32} {t p n : Nat} : xS (xNew σ k t p d n) = nI (n + 1) := by
  unfold xS xNew
  rw [zF_zsF, if_pos ⟨rfl, rfl, rfl⟩]
/-- the table of keys behind a number asked for -/
theorem xNum.hs {σ σ1 : zS} {k : Int32} {s n g pk T : Nat} {po : Nat → Nat} (h : xNum σ k s n g σ1) (hg4 : g < 400) (hi : xI σ pk n T po) : ∃ n1 po1, n ≤ n1 ∧ n1 ≤ 400 ∧ g < n1 ∧ xHs σ1 n1 po1 ∧ xS σ1 = nI n1 ∧ zI σ1 9 g = k ∧ (∀ i, i < n → zI σ1 9 i = zI σ 9 i) ∧ ((n1 = n ∧ σ1 = σ) ∨ (n1 = n + 1 ∧ g = n ∧ (∀ i, i < n → zI σ 9 i ≠ k) ∧ ∃ t, σ1 = xNew σ k t s (zI σ 10 s + 1) n)) := by
  obtain ⟨h1, h2, h3, h4, h5, h6, h7, h8, h9, h10⟩ := hi
  obtain ⟨t, ht, ⟨q1, q2, rfl⟩ | ⟨q1, q2, rfl, rfl⟩⟩ := h
  · have htl : t < 1024 := by rw [← ht]; exact xProbe_lt σ1 k 1024 _ (xHash_lt k)
    have hgn : g < n ∧ zI σ1 9 g = k := by
      by_cases hex : ∃ i, i < n ∧ zI σ1 9 i = k
      · obtain ⟨i, hi1, hi2⟩ := hex
        have hp := xProbe_found h3 h5 hi1
        rw [hi2, ht] at hp
        have := (h3.2.1 i hi1).2
        rw [← hp, q2] at this
        rcases h3.1 t htl with z | ⟨i', z1, z2, z3⟩
        · rw [z] at q1
          exact absurd m1_neg q1
        · rw [q2] at z2
          have e1 : i' = i := by
            have h31 := h3.2.1 i' z1
            have h32 := h3.2.1 i hi1
            have e2 : po i' = po i := z3.trans hp
            have e3 := h31.2
            rw [e2, h32.2] at e3
            exact ((nI_eq (by omega) (by omega)).mp e3).symm
          subst e1
          have := (nI_eq (show g < 2 ^ 31 by omega) (by omega)).mp z2
          subst this
          exact ⟨z1, hi2⟩
      · obtain ⟨d, d1, d2, d3, d4⟩ := xProbe_new h3 h5 (fun i hi e => hex ⟨i, hi, e⟩)
        rw [ht] at d2
        rw [← d2] at d3
        rw [d3] at q1
        exact absurd m1_neg q1
    exact ⟨n, po, Nat.le_refl _, h5, hgn.1, h3, h4, hgn.2, fun _ _ => rfl, Or.inl ⟨rfl, rfl⟩⟩
  · have hk : ∀ i, i < g → zI σ 9 i ≠ k := by
      intro i hi e
      have hp := xProbe_found h3 h5 hi
      rw [e, ht] at hp
      have := (h3.2.1 i hi).2
      rw [← hp] at this
      rw [this] at q1
      exact nI_pos (by omega) q1
    refine ⟨g + 1, xPo po g t, by omega, by omega, by omega, h3.add q2 hk ht, xNew_S, ?_, fun i hi => ?_, Or.inr ⟨rfl, rfl, hk, t, rfl⟩⟩
    · rw [xNew_9, if_pos rfl]
    · rw [xNew_9, if_neg (by omega)]
end
section
/-! what holds behind a step -/
theorem xGrow_I {σ : zS} (pk : Nat) {a : Nat} (h : a ≠ zn σ) : zI (xGrow σ pk) a = zI σ a := funext fun j => by
  show (if a = zn σ then _ else (if a = zn σ then 0 else zI σ a j)) = _
  rw [if_neg h, if_neg h]
theorem xLen_eq {σ : zS} {pk : Nat} (h : xPk σ pk) : xLen σ = zL σ pk := by
  unfold xLen
  rw [xPkOf_eq h]
theorem xI_stp {σ : zS} {pk n T s : Nat} {po : Nat → Nat} (h : xI σ pk n T po) (hT : T ≤ 512000) (k mov : Int32) :
    ∃ pk' n' T' po', xI (xStp σ s k mov) pk' n' T' po' ∧ xFr σ (xStp σ s k mov) pk pk' ∧ n ≤ n' ∧ T ≤ T' ∧ T' ≤ T + 1 ∧ zL σ pk ≤ zL (xStp σ s k mov) pk' ∧ (∀ i, i < n → zI (xStp σ s k mov) 9 i = zI σ 9 i) := by
  obtain ⟨h1, h2, h3, h4, h5, h6, h7, h8, h9, h10⟩ := id h
  rcases xStp_way h (by omega) s k mov with ⟨q1, q2, q3⟩ | ⟨g, q1, q2, q3, ⟨q4, q5⟩ | ⟨q4, q5⟩⟩
  · rw [q3]
    refine ⟨pk, n, T, po, ⟨h1, h2, h3.congr rfl rfl, ?_, h5, ?_, h7, h8, h9, h10⟩, xFr.upd rfl rfl rfl (fun c k a hc => ?_) rfl (fun _ _ _ => rfl) rfl rfl, Nat.le_refl _, Nat.le_refl _, by omega, Nat.le_refl _, fun _ _ => rfl⟩
    · rw [← h4]
      unfold xS
      rw [zF_zsF, if_neg (by decide)]
    · rw [← h6]
      unfold xT
      rw [zF_zsF, if_neg (by decide)]
    · rw [zF_zsF, if_neg (fun q => hc q.1)]
  · obtain ⟨n1, po1, w1, w2, w3, w4, w5, w6, w7, w8⟩ := q2.hs q1 h
    rw [q5]
    have p9 : (9 : Nat) ≠ pk := xPk_ne h2 (by decide)
    have p15 : (15 : Nat) ≠ pk := xPk_ne h2 (by decide)
    refine ⟨pk, n1, T + 1, po1, ⟨q2.sh h1, q2.pk h2, w4.congr (xAdd_I (by decide) p9) (xAdd_I (by decide) p15), xAdd_S.trans w5, w2, xAdd_T, ?_, ?_, ?_, q2.wf h10⟩, (q2.fr pk).tr (xAdd_fr ..), w1, by omega, by omega, ?_, fun i hi => ?_⟩
    · show T + 1 ≤ zL (xMk σ s k) pk
      rw [q2.len]; omega
    · show 1 ≤ zL (xMk σ s k) pk
      rw [q2.len]; omega
    · show zL (xMk σ s k) pk ≤ 2048 ∨ zL (xMk σ s k) pk ≤ 2 * (T + 1)
      rw [q2.len]; omega
    · show zL σ pk ≤ zL (xMk σ s k) pk
      rw [q2.len]; exact Nat.le_refl _
    · rw [xAdd_I (by decide) p9]
      exact w7 i hi
  · obtain ⟨n1, po1, w1, w2, w3, w4, w5, w6, w7, w8⟩ := q2.hs q1 h
    rw [q5]
    have hw1 := q2.wf h10
    have hs1 := q2.sh h1
    have n29 := zWF_lt hw1 (xk_29 hs1) (by decide)
    have g9 : zI (xAdd (xGrow (xMk σ s k) pk) (zn (xMk σ s k)) T g mov s) 9 = zI (xMk σ s k) 9 := (xAdd_I (by decide) (by omega)).trans (xGrow_I pk (by omega))
    have g15 : zI (xAdd (xGrow (xMk σ s k) pk) (zn (xMk σ s k)) T g mov s) 15 = zI (xMk σ s k) 15 := (xAdd_I (by decide) (by omega)).trans (xGrow_I pk (by omega))
    have hlen : zL (xAdd (xGrow (xMk σ s k) pk) (zn (xMk σ s k)) T g mov s) (zn (xMk σ s k)) = 2 * zL σ pk := (xGrow_len _ pk).trans (by rw [q2.len])
    refine ⟨zn (xMk σ s k), n1, T + 1, po1, ⟨xGrow_sh hw1 hs1 pk, xGrow_pk hw1 hs1 pk, w4.congr g9 g15, ?_, w2, xAdd_T, ?_, ?_, ?_, zWF_grow hw1 pk⟩, ((q2.fr pk).tr (xGrow_fr hw1 pk)).tr (xAdd_fr ..), w1, by omega, by omega, ?_, fun i hi => ?_⟩
    · exact xAdd_S.trans w5
    · rw [hlen]; omega
    · rw [hlen]; omega
    · rw [hlen]; omega
    · rw [hlen]; omega
    · rw [g9]
      exact w7 i hi
end
section
/-! all steps of a mover -/
def xPm (σ : zS) (a : Nat) : Int32 := (zF σ 1 0 a <<< ((9 : Int32) &&& 31)) ||| (zF σ 1 1 a <<< ((12 : Int32) &&& 31))
def xPb (σ : zS) (b : Nat) : Int32 := ((zF σ 1 0 b + 1) <<< ((16 : Int32) &&& 31)) ||| ((zF σ 1 1 b + 1) <<< ((19 : Int32) &&& 31))
/-- the processes and their moves: how many, and where each lies -/
def xPro (σ : zS) (P : Nat) (mc : Nat → Nat) (mid : Nat → Nat → Nat) : Prop :=
  xP σ = nI P ∧ P ≤ 3 ∧ (∀ p, p < P → zI σ 4 p = nI (mc p) ∧ mc p ≤ 6) ∧ ∀ p m, p < P → m < mc p → zR σ 5 (16 * p + m) = some (mid p m) ∧ zK σ (mid p m) = 1 ∧ zF σ 1 0 (mid p m) = nI p ∧ zF σ 1 1 (mid p m) = nI m
theorem xPro.fr {σ σ' : zS} {pk pk' P : Nat} {mc : Nat → Nat} {mid : Nat → Nat → Nat} (h : xPro σ P mc mid) (hs : xSh σ) (hp : pk = 16 ∨ 30 ≤ pk) (hf : xFr σ σ' pk pk') : xPro σ' P mc mid := by
  obtain ⟨h1, h2, h3, h4⟩ := h
  obtain ⟨-, -, f1, -, f3, -, f5, f6, -⟩ := hf
  refine ⟨?_, h2, fun p hp' => ?_, fun p m hp' hm => ?_⟩
  · rw [← h1]
    exact f3 2 5 2 (by decide)
  · rw [f5 4 (by rw [xk_4 hs]; decide) (by omega) (by omega)]
    exact h3 p hp'
  · obtain ⟨g1, g2, g3, g4⟩ := h4 p m hp' hm
    rw [f6 5 (by rw [xk_5 hs]; decide), f1 _ (by rw [g2]; decide), f3 _ _ _ (by decide), f3 _ _ _ (by decide)]
    exact ⟨g1, g2, g3, g4⟩
theorem xOpen_fr {σ σ' : zS} (h : ∀ c k a, c ≠ 3 → zF σ' c k a = zF σ c k a) (a : Nat) (k : Int32) : xOpen σ' a k = xOpen σ a k ∧ xAD σ' a k = xAD σ a k ∧ xAG σ' a k = xAG σ a k ∧ xPm σ' a = xPm σ a ∧ xPb σ' a = xPb σ a ∧ xGA σ' a k = xGA σ a k := by
  have f : ∀ j, zF σ' 1 j a = zF σ 1 j a := fun j => h 1 j a (by decide)
  unfold xOpen xAD xAG xPm xPb xGA
  simp only [f, and_self]
/-- one pair of moves makes a step: its other move b, at the key k and behind the first one's deed -/
def xPair (σ : zS) (a b : Nat) (k aft : Int32) : Bool := decide (zF σ 1 4 b = zF σ 1 4 a) && (xOpen σ b k && decide (0 ≤ xAD σ b aft))
/-- the other process q's moves, from m on, d of them -/
def xIn (σ0 : zS) (mid : Nat → Nat → Nat) (a : Nat) (k aft : Int32) (s q : Nat) : Nat → Nat → zS → zS
  | 0, _, σ => σ
  | d + 1, m, σ => xIn σ0 mid a k aft s q d (m + 1) (if xPair σ0 a (mid q m) k aft = true then xStp σ s (xAG σ0 (mid q m) (xAD σ0 (mid q m) aft)) (xPm σ0 a ||| xPb σ0 (mid q m)) else σ)
/-- the other processes, from q on, d of them -/
def xOut (σ0 : zS) (mc : Nat → Nat) (mid : Nat → Nat → Nat) (a : Nat) (k aft : Int32) (s : Nat) : Nat → Nat → zS → zS
  | 0, _, σ => σ
  | d + 1, q, σ => xOut σ0 mc mid a k aft s d (q + 1) (xIn σ0 mid a k aft s q (mc q) 0 σ)
/-- all steps of the mover a, of the process pa -/
def xBy (σ0 : zS) (P : Nat) (mc : Nat → Nat) (mid : Nat → Nat → Nat) (pa a : Nat) (k : Int32) (s : Nat) (σ : zS) : zS :=
  if zF σ0 1 4 a = 0 then xStp σ s (xAG σ0 a (xAD σ0 a k)) (xPm σ0 a) else xOut σ0 mc mid a k (xAG σ0 a (xAD σ0 a k)) s (P - (pa + 1)) (pa + 1) σ
/-- while it explores, from σ0 on: the state s has the key k -/
def xJ (σ0 : zS) (p0 s : Nat) (k : Int32) (σ : zS) (pk n T : Nat) (po : Nat → Nat) : Prop := xI σ pk n T po ∧ xFr σ0 σ p0 pk ∧ zI σ 9 s = k ∧ s < n
/-- how far it went on: at most d steps more -/
def xTo (σ : zS) (pk n T : Nat) (σ' : zS) (pk' n' T' d : Nat) : Prop := xFr σ σ' pk pk' ∧ n ≤ n' ∧ T ≤ T' ∧ T' ≤ T + d ∧ zL σ pk ≤ zL σ' pk' ∧ ∀ i, i < n → zI σ' 9 i = zI σ 9 i
theorem xTo.rf (σ : zS) (pk n T d : Nat) : xTo σ pk n T σ pk n T d := ⟨xFr.rf σ pk, Nat.le_refl _, Nat.le_refl _, by omega, Nat.le_refl _, fun _ _ => rfl⟩
theorem xTo.tr {σ σ1 σ2 : zS} {pk n T pk1 n1 T1 pk2 n2 T2 d1 d2 : Nat} (h : xTo σ pk n T σ1 pk1 n1 T1 d1) (h2 : xTo σ1 pk1 n1 T1 σ2 pk2 n2 T2 d2) : xTo σ pk n T σ2 pk2 n2 T2 (d1 + d2) := by
  obtain ⟨a1, a2, a3, a4, a5, a6⟩ := h
  obtain ⟨b1, b2, b3, b4, b5, b6⟩ := h2
  exact ⟨a1.tr b1, by omega, by omega, by omega, by omega, fun i hi => (b6 i (by omega)).trans (a6 i hi)⟩
theorem xTo.wid {σ σ1 : zS} {pk n T pk1 n1 T1 d d' : Nat} (h : xTo σ pk n T σ1 pk1 n1 T1 d) (hd : d ≤ d') : xTo σ pk n T σ1 pk1 n1 T1 d' := ⟨h.1, h.2.1, h.2.2.1, by have := h.2.2.2.1; omega, h.2.2.2.2⟩
theorem xJ.to {σ0 σ σ' : zS} {p0 s pk n T pk' n' T' d : Nat} {k : Int32} {po po' : Nat → Nat} (h : xJ σ0 p0 s k σ pk n T po) (hi : xI σ' pk' n' T' po') (ht : xTo σ pk n T σ' pk' n' T' d) : xJ σ0 p0 s k σ' pk' n' T' po' := ⟨hi, h.2.1.tr ht.1, (ht.2.2.2.2.2 s h.2.2.2).trans h.2.2.1, Nat.lt_of_lt_of_le h.2.2.2 ht.2.1⟩
theorem xJ_stp {σ0 σ : zS} {p0 s pk n T : Nat} {k : Int32} {po : Nat → Nat} (h : xJ σ0 p0 s k σ pk n T po) (hT : T ≤ 512000) (x mov : Int32) : ∃ pk' n' T' po', xJ σ0 p0 s k (xStp σ s x mov) pk' n' T' po' ∧ xTo σ pk n T (xStp σ s x mov) pk' n' T' 1 := by
  obtain ⟨pk', n', T', po', h1, h2, h3, h4, h5, h6, h7⟩ := xI_stp (s := s) h.1 hT x mov
  exact ⟨pk', n', T', po', h.to h1 ⟨h2, h3, h4, h5, h6, h7⟩, ⟨h2, h3, h4, h5, h6, h7⟩⟩
theorem xJ_in {σ0 : zS} {p0 s : Nat} {k : Int32} {mid : Nat → Nat → Nat} {a : Nat} {aft : Int32} {q : Nat} : ∀ (d m : Nat) {σ : zS} {pk n T : Nat} {po : Nat → Nat}, xJ σ0 p0 s k σ pk n T po → T + d ≤ 512000 → ∃ pk' n' T' po', xJ σ0 p0 s k (xIn σ0 mid a k aft s q d m σ) pk' n' T' po' ∧ xTo σ pk n T (xIn σ0 mid a k aft s q d m σ) pk' n' T' d
  | 0, m, σ, pk, n, T, po, h, hT => ⟨pk, n, T, po, h, xTo.rf _ _ _ _ _⟩
  | d + 1, m, σ, pk, n, T, po, h, hT => by
    unfold xIn
    split
    · obtain ⟨pk1, n1, T1, po1, h1, h2⟩ := xJ_stp h (by omega) (xAG σ0 (mid q m) (xAD σ0 (mid q m) aft)) (xPm σ0 a ||| xPb σ0 (mid q m))
      obtain ⟨pk2, n2, T2, po2, h3, h4⟩ := xJ_in (mid := mid) (a := a) (aft := aft) (q := q) d (m + 1) h1 (by have := h2.2.2.2.1; omega)
      exact ⟨pk2, n2, T2, po2, h3, (h2.tr h4).wid (by omega)⟩
    · obtain ⟨pk2, n2, T2, po2, h3, h4⟩ := xJ_in (mid := mid) (a := a) (aft := aft) (q := q) d (m + 1) h (by omega)
      exact ⟨pk2, n2, T2, po2, h3, h4.wid (by omega)⟩
theorem xJ_out {σ0 : zS} {p0 s : Nat} {k : Int32} {mc : Nat → Nat} {mid : Nat → Nat → Nat} {a : Nat} {aft : Int32} : ∀ (d q : Nat), (∀ q', q ≤ q' → q' < q + d → mc q' ≤ 6) → ∀ {σ : zS} {pk n T : Nat} {po : Nat → Nat}, xJ σ0 p0 s k σ pk n T po → T + 6 * d ≤ 512000 → ∃ pk' n' T' po', xJ σ0 p0 s k (xOut σ0 mc mid a k aft s d q σ) pk' n' T' po' ∧ xTo σ pk n T (xOut σ0 mc mid a k aft s d q σ) pk' n' T' (6 * d)
  | 0, q, hm, σ, pk, n, T, po, h, hT => ⟨pk, n, T, po, h, xTo.rf _ _ _ _ _⟩
  | d + 1, q, hm, σ, pk, n, T, po, h, hT => by
    unfold xOut
    have := hm q (by omega) (by omega)
    obtain ⟨pk1, n1, T1, po1, h1, h2⟩ := xJ_in (mid := mid) (a := a) (aft := aft) (q := q) (mc q) 0 h (by omega)
    obtain ⟨pk2, n2, T2, po2, h3, h4⟩ := xJ_out (mc := mc) (mid := mid) (a := a) (aft := aft) d (q + 1) (fun q' g1 g2 => hm q' (by omega) (by omega)) h1 (by have := h2.2.2.2.1; omega)
    exact ⟨pk2, n2, T2, po2, h3, (h2.tr h4).wid (by omega)⟩
theorem xTo.zn {σ σ1 : zS} {pk n T pk1 n1 T1 d : Nat} (h : xTo σ pk n T σ1 pk1 n1 T1 d) : zn σ ≤ zn σ1 := h.1.1
theorem xTo.len {σ0 σ σ1 : zS} {p0 s : Nat} {k : Int32} {pk n T pk1 n1 T1 d : Nat} {po po1 : Nat → Nat} (h : xTo σ pk n T σ1 pk1 n1 T1 d) (h0 : xJ σ0 p0 s k σ pk n T po) (h1 : xJ σ0 p0 s k σ1 pk1 n1 T1 po1) : xLen σ ≤ xLen σ1 := by
  rw [xLen_eq h0.1.2.1, xLen_eq h1.1.2.1]
  exact h.2.2.2.2.1
set_option maxHeartbeats 4000000 in
set_option maxRecDepth 100000 in
theorem c_X3_packedMover {l : Launch} {σ : zS} {a : Nat} (hm : zK σ a = 1) : zAM l zmX3_packedMover 0 0 0 0 [.ref a] σ (fun v σ' => v = some (.int (xPm σ a)) ∧ σ' = σ) := by
  refine zAM.of (by decide +kernel) (Nat.le_of_ble_eq_true rfl) ?_
  refine zw_aload_n dX3_packedMover_0 rfl ?_
  refine zw_getI dX3_packedMover_1 zfX3_115 rfl hm (by decide) ?_
  refine zw_bipush (x := 9) dX3_packedMover_4 rfl ?_
  refine zw_ishl dX3_packedMover_6 ?_
  refine zw_aload_n dX3_packedMover_7 rfl ?_
  refine zw_getI dX3_packedMover_8 zfX3_121 rfl hm (by decide) ?_
  refine zw_bipush (x := 12) dX3_packedMover_11 rfl ?_
  refine zw_ishl dX3_packedMover_13 ?_
  refine zw_ior dX3_packedMover_14 ?_
  refine zw_iret dX3_packedMover_15 rfl rfl ?_
  exact ⟨rfl, rfl⟩
set_option maxHeartbeats 4000000 in
set_option maxRecDepth 100000 in
theorem c_X3_packedOther {l : Launch} {σ : zS} {a : Nat} (hm : zK σ a = 1) : zAM l zmX3_packedOther 0 0 0 0 [.ref a] σ (fun v σ' => v = some (.int (xPb σ a)) ∧ σ' = σ) := by
  refine zAM.of (by decide +kernel) (Nat.le_of_ble_eq_true rfl) ?_
  refine zw_aload_n dX3_packedOther_0 rfl ?_
  refine zw_getI dX3_packedOther_1 zfX3_115 rfl hm (by decide) ?_
  refine zw_iconst (x := 1) dX3_packedOther_4 rfl ?_
  refine zw_iadd dX3_packedOther_5 ?_
  refine zw_bipush (x := 16) dX3_packedOther_6 rfl ?_
  refine zw_ishl dX3_packedOther_8 ?_
  refine zw_aload_n dX3_packedOther_9 rfl ?_
  refine zw_getI dX3_packedOther_10 zfX3_121 rfl hm (by decide) ?_
  refine zw_iconst (x := 1) dX3_packedOther_13 rfl ?_
  refine zw_iadd dX3_packedOther_14 ?_
  refine zw_bipush (x := 19) dX3_packedOther_15 rfl ?_
  refine zw_ishl dX3_packedOther_17 ?_
  refine zw_ior dX3_packedOther_18 ?_
  refine zw_iret dX3_packedOther_19 rfl rfl ?_
  exact ⟨rfl, rfl⟩
set_option maxHeartbeats 4000000 in
set_option maxRecDepth 100000 in
theorem lp_By_in {l : Launch} {σ0 : zS} {P p0 s a q : Nat} {k aft : Int32} {mc : Nat → Nat} {mid : Nat → Nat → Nat} (h0 : xSh σ0) (hp0 : p0 = 16 ∨ 30 ≤ p0) (hpro : xPro σ0 P mc mid) (hma : zK σ0 a = 1) (hq : q < P) (hs : s < 400) {C S : Nat} {Q : Option Value → zS → Prop} :
    ∀ (d m : Nat) (σ : zS) (pk n T : Nat) (po : Nat → Nat) (uc us : Nat), m + d = mc q → xJ σ0 p0 s k σ pk n T po → T + d ≤ 512000 → uc + (zn (xIn σ0 mid a k aft s q d m σ) - zn σ) ≤ C → us + 2 * (xLen (xIn σ0 mid a k aft s q d m σ) - xLen σ) ≤ S →
    (∀ uc' us', uc' = uc + (zn (xIn σ0 mid a k aft s q d m σ) - zn σ) → us' = us + 2 * (xLen (xIn σ0 mid a k aft s q d m σ) - xLen σ) → zAW l zmX3_addStepsBy { frames := 3, cells := C, slots := S, locals := 86 } 152 [(0, .ref 8), (1, .ref a), (2, .int (nI s)), (3, .ref 2), (4, .int aft), (5, .int (nI q)), (6, .int (nI (mc q)))] [] (xIn σ0 mid a k aft s q d m σ) uc' us' Q) →
    zAW l zmX3_addStepsBy { frames := 3, cells := C, slots := S, locals := 86 } 55 [(0, .ref 8), (1, .ref a), (2, .int (nI s)), (3, .ref 2), (4, .int aft), (5, .int (nI q)), (6, .int (nI m))] [] σ uc us Q := by
  intro d
  induction d with
  | zero =>
    intro m σ pk n T po uc us hd hj hT hc1 hc2 hK
    have hd : m = mc q := hd
    subst hd
    have h := hj.1.1
    have hpr := hpro.fr h0 hp0 hj.2.1
    have hmc := hpr.2.2.1 q hq
    refine zw_iload dX3_addStepsBy_55 rfl ?_
    refine zw_aload_n dX3_addStepsBy_57 rfl ?_
    refine zw_iload dX3_addStepsBy_58 rfl ?_
    refine zw_callV (y' := zmX2_movesOf) dX3_addStepsBy_60 zlX3_81 zmX2_movesOf_ok (xk_2 h) (by decide) rfl (c_X2_movesOf h hpr.1 (Nat.le_trans hpr.2.1 (by decide)) hq) rfl rfl (Nat.le_of_ble_eq_true rfl) ⟨Nat.le_of_ble_eq_true rfl, Nat.le_of_ble_eq_true rfl⟩ ⟨by show uc + 0 ≤ C; omega, by show us + 0 ≤ S; omega⟩ ?_
    intro v60 s60 q60
    obtain ⟨rfl, z60⟩ := q60
    rw [z60]
    clear z60
    rw [hmc.1]
    refine zw_icmpge (tgt := 152) dX3_addStepsBy_63 (by decide) (fun c63 => ?_) (fun c63 => ?_)
    · exact hK _ _ (by show uc + 0 = _; rw [show xIn σ0 mid a k aft s q 0 (mc q) σ = σ from rfl]; omega) (by show us + 0 = _; rw [show xIn σ0 mid a k aft s q 0 (mc q) σ = σ from rfl]; omega)
    · exact absurd (nI_le (Nat.le_refl (mc q)) (by omega)) c63
  | succ d ih =>
    intro m σ pk n T po uc us hd hj hT hc1 hc2 hK
    have h := hj.1.1
    have hpr := hpro.fr h0 hp0 hj.2.1
    have hmc := hpr.2.2.1 q hq
    have hfF := hj.2.1.2.2.2.2.1
    have hma1 : zK σ a = 1 := by rw [hj.2.1.2.2.1 a (by rw [hma]; decide)]; exact hma
    have hmlt : m < mc q := by omega
    obtain ⟨hb1, hb2, hb3, hb4⟩ := hpr.2.2.2 q m hq hmlt
    have eb := xOpen_fr hfF (mid q m) k
    have eb2 := xOpen_fr hfF (mid q m) aft
    have ea := xOpen_fr hfF a k
    have ehb : zF σ 1 4 (mid q m) = zF σ0 1 4 (mid q m) := hfF _ _ _ (by decide)
    have eha : zF σ 1 4 a = zF σ0 1 4 a := hfF _ _ _ (by decide)
    refine zw_iload dX3_addStepsBy_55 rfl ?_
    refine zw_aload_n dX3_addStepsBy_57 rfl ?_
    refine zw_iload dX3_addStepsBy_58 rfl ?_
    refine zw_callV (y' := zmX2_movesOf) dX3_addStepsBy_60 zlX3_81 zmX2_movesOf_ok (xk_2 h) (by decide) rfl (c_X2_movesOf h hpr.1 (Nat.le_trans hpr.2.1 (by decide)) hq) rfl rfl (Nat.le_of_ble_eq_true rfl) ⟨Nat.le_of_ble_eq_true rfl, Nat.le_of_ble_eq_true rfl⟩ ⟨by show uc + 0 ≤ C; omega, by show us + 0 ≤ S; omega⟩ ?_
    intro v60 s60 q60
    obtain ⟨rfl, z60⟩ := q60
    rw [z60]
    clear z60
    rw [hmc.1]
    refine zw_icmpge (tgt := 152) dX3_addStepsBy_63 (by decide) (fun c63 => ?_) (fun c63 => ?_)
    · exact absurd c63 (nI_ge hmlt (by omega))
    · refine zw_aload_n dX3_addStepsBy_66 rfl ?_
      refine zw_iload dX3_addStepsBy_67 rfl ?_
      refine zw_iload dX3_addStepsBy_69 rfl ?_
      refine zw_callV (y' := zmX2_find) dX3_addStepsBy_71 zlX3_84 zmX2_find_ok (xk_2 h) (by decide) rfl (c_X2_find h hpr.1 (Nat.le_trans hpr.2.1 (by decide)) hq hmc.1 hmlt (Nat.le_trans hmc.2 (by decide)) hb1) rfl rfl (Nat.le_of_ble_eq_true rfl) ⟨Nat.le_of_ble_eq_true rfl, Nat.le_of_ble_eq_true rfl⟩ ⟨by show uc + 0 ≤ C; omega, by show us + 0 ≤ S; omega⟩ ?_
      intro v71 s71 q71
      obtain ⟨rfl, z71⟩ := q71
      rw [z71]
      clear z71
      refine zw_astore dX3_addStepsBy_74 (by decide) rfl ?_
      refine zw_aload dX3_addStepsBy_76 rfl ?_
      refine zw_ifnull dX3_addStepsBy_78 ?_
      refine zw_aload dX3_addStepsBy_81 rfl ?_
      refine zw_getI dX3_addStepsBy_83 zfX3_104 rfl hb2 (by decide) ?_
      refine zw_aload_n dX3_addStepsBy_86 rfl ?_
      refine zw_getI dX3_addStepsBy_87 zfX3_104 rfl hma1 (by decide) ?_
      refine zw_icmpne (tgt := 146) dX3_addStepsBy_90 (by decide) (fun c90 => ?_) (fun c90 => ?_)
      · have hcond : xPair σ0 a (mid q m) k aft = false := by
          unfold xPair
          rw [ehb, eha] at c90
          rw [decide_eq_false c90]
          rfl
        have hstep : xIn σ0 mid a k aft s q (d + 1) m σ = xIn σ0 mid a k aft s q d (m + 1) σ := by
          rw [xIn, hcond]
          rfl
        rw [hstep] at hc1 hc2 hK
        refine zw_iinc dX3_addStepsBy_146 rfl (by decide) rfl ?_
        refine zw_goto (tgt := 55) dX3_addStepsBy_149 (by decide) ?_
        refine zw_loc (lc' := [(0, .ref 8), (1, .ref a), (2, .int (nI s)), (3, .ref 2), (4, .int aft), (5, .int (nI q)), (6, .int (nI m + 1))]) (zsub_cons rfl (zsub_cons rfl (zsub_cons rfl (zsub_cons rfl (zsub_cons rfl (zsub_cons rfl (zsub_cons rfl zsub_nil))))))) ?_
        rw [nI_1]
        refine ih (m + 1) _ pk n T po _ _ (by omega) hj (by omega) (by omega) (by omega) (fun uc' us' e1 e2 => hK uc' us' (by omega) (by omega))
      · refine zw_aload dX3_addStepsBy_93 rfl ?_
        refine zw_aload_n dX3_addStepsBy_95 rfl ?_
        refine zw_getR dX3_addStepsBy_96 zfX3_11 rfl (xk_8 h) (by decide) (xg_3_0 h) ?_
        refine zw_iload_n dX3_addStepsBy_99 rfl ?_
        refine zw_iaload dX3_addStepsBy_100 (xk_9 h) (zin_of (xl_9 h) (vp_in_nI (by omega) (by omega))) ?_
        rw [nI_clamp (n := s) (by omega), hj.2.2.1]
        refine zw_callV (y' := zmX1_isOpenIn) dX3_addStepsBy_101 zlX3_88 zmX1_isOpenIn_ok hb2 (by decide) rfl (c_X1_isOpenIn hb2 _) rfl rfl (Nat.le_of_ble_eq_true rfl) ⟨Nat.le_of_ble_eq_true rfl, Nat.le_of_ble_eq_true rfl⟩ ⟨by show uc + 0 ≤ C; omega, by show us + 0 ≤ S; omega⟩ ?_
        intro v101 s101 q101
        obtain ⟨rfl, z101⟩ := q101
        rw [z101]
        clear z101
        refine zw_ifne (tgt := 110) dX3_addStepsBy_104 (by decide) (fun c104 => ?_) (fun c104 => ?_)
        · refine zw_aload dX3_addStepsBy_110 rfl ?_
          refine zw_iload dX3_addStepsBy_112 rfl ?_
          refine zw_callV (y' := zmX1_afterDeed) dX3_addStepsBy_114 zlX3_98 zmX1_afterDeed_ok hb2 (by decide) rfl (c_X1_afterDeed hb2 _) rfl rfl (Nat.le_of_ble_eq_true rfl) ⟨Nat.le_of_ble_eq_true rfl, Nat.le_of_ble_eq_true rfl⟩ ⟨by show uc + 0 ≤ C; omega, by show us + 0 ≤ S; omega⟩ ?_
          intro v114 s114 q114
          obtain ⟨rfl, z114⟩ := q114
          rw [z114]
          clear z114
          refine zw_istore dX3_addStepsBy_117 (by decide) rfl ?_
          refine zw_iload dX3_addStepsBy_119 rfl ?_
          refine zw_iflt (tgt := 146) dX3_addStepsBy_121 (by decide) (fun c121 => ?_) (fun c121 => ?_)
          · have hcond : xPair σ0 a (mid q m) k aft = false := by
              unfold xPair
              rw [eb2.2.1] at c121
              rw [decide_eq_false (Int32.not_le.mpr c121)]
              simp
            have hstep : xIn σ0 mid a k aft s q (d + 1) m σ = xIn σ0 mid a k aft s q d (m + 1) σ := by
              rw [xIn, hcond]
              rfl
            rw [hstep] at hc1 hc2 hK
            refine zw_iinc dX3_addStepsBy_146 rfl (by decide) rfl ?_
            refine zw_goto (tgt := 55) dX3_addStepsBy_149 (by decide) ?_
            refine zw_loc (lc' := [(0, .ref 8), (1, .ref a), (2, .int (nI s)), (3, .ref 2), (4, .int aft), (5, .int (nI q)), (6, .int (nI m + 1))]) (zsub_cons rfl (zsub_cons rfl (zsub_cons rfl (zsub_cons rfl (zsub_cons rfl (zsub_cons rfl (zsub_cons rfl zsub_nil))))))) ?_
            rw [nI_1]
            refine ih (m + 1) _ pk n T po _ _ (by omega) hj (by omega) (by omega) (by omega) (fun uc' us' e1 e2 => hK uc' us' (by omega) (by omega))
          · refine zw_aload_n dX3_addStepsBy_124 rfl ?_
            refine zw_iload_n dX3_addStepsBy_125 rfl ?_
            refine zw_aload dX3_addStepsBy_126 rfl ?_
            refine zw_iload dX3_addStepsBy_128 rfl ?_
            refine zw_callV (y' := zmX1_afterGoing) dX3_addStepsBy_130 zlX3_101 zmX1_afterGoing_ok hb2 (by decide) rfl (c_X1_afterGoing hb2 _) rfl rfl (Nat.le_of_ble_eq_true rfl) ⟨Nat.le_of_ble_eq_true rfl, Nat.le_of_ble_eq_true rfl⟩ ⟨by show uc + 0 ≤ C; omega, by show us + 0 ≤ S; omega⟩ ?_
            intro v130 s130 q130
            obtain ⟨rfl, z130⟩ := q130
            rw [z130]
            clear z130
            refine zw_aload_n dX3_addStepsBy_133 rfl ?_
            refine zw_callS (y' := zmX3_packedMover) dX3_addStepsBy_134 zlX3_107 zmX3_packedMover_ok (c_X3_packedMover hma1) rfl rfl (Nat.le_of_ble_eq_true rfl) ⟨Nat.le_of_ble_eq_true rfl, Nat.le_of_ble_eq_true rfl⟩ ⟨by show uc + 0 ≤ C; omega, by show us + 0 ≤ S; omega⟩ ?_
            intro v134 s134 q134
            obtain ⟨rfl, z134⟩ := q134
            rw [z134]
            clear z134
            refine zw_aload dX3_addStepsBy_137 rfl ?_
            refine zw_callS (y' := zmX3_packedOther) dX3_addStepsBy_139 zlX3_118 zmX3_packedOther_ok (c_X3_packedOther hb2) rfl rfl (Nat.le_of_ble_eq_true rfl) ⟨Nat.le_of_ble_eq_true rfl, Nat.le_of_ble_eq_true rfl⟩ ⟨by show uc + 0 ≤ C; omega, by show us + 0 ≤ S; omega⟩ ?_
            intro v139 s139 q139
            obtain ⟨rfl, z139⟩ := q139
            rw [z139]
            clear z139
            refine zw_ior dX3_addStepsBy_142 ?_
            rw [eb2.2.1, (xOpen_fr hfF (mid q m) (xAD σ0 (mid q m) aft)).2.2.1, ea.2.2.2.1, eb.2.2.2.2.1]
            have hcond : xPair σ0 a (mid q m) k aft = true := by
              unfold xPair
              rw [ehb, eha] at c90
              rw [zb_1, eb.1] at c104
              rw [eb2.2.1] at c121
              rw [decide_eq_true c90, c104, decide_eq_true (Int32.not_lt.mp c121)]
              rfl
            have hstep : xIn σ0 mid a k aft s q (d + 1) m σ = xIn σ0 mid a k aft s q d (m + 1) (xStp σ s (xAG σ0 (mid q m) (xAD σ0 (mid q m) aft)) (xPm σ0 a ||| xPb σ0 (mid q m))) := by
              rw [xIn, hcond]
              rfl
            rw [hstep] at hc1 hc2 hK
            obtain ⟨pk1, n1, T1, po1, hj1, hto⟩ := xJ_stp hj (by omega) (xAG σ0 (mid q m) (xAD σ0 (mid q m) aft)) (xPm σ0 a ||| xPb σ0 (mid q m))
            obtain ⟨pk2, n2, T2, po2, hj2, hto2⟩ := xJ_in (mid := mid) (a := a) (aft := aft) (q := q) d (m + 1) hj1 (by have := hto.2.2.2.1; omega)
            have hz1 := hto.zn
            have hz2 := hto2.zn
            have hl1 := hto.len hj hj1
            have hl2 := hto2.len hj1 hj2
            refine zw_callV (y' := zmX3_addStep) dX3_addStepsBy_143 zlX3_111 zmX3_addStep_ok (xk_8 h) (by decide) rfl (c_X3_addStep hj.1 (by omega) hs) rfl rfl (Nat.le_of_ble_eq_true rfl) ⟨Nat.le_of_ble_eq_true rfl, Nat.le_of_ble_eq_true rfl⟩ ⟨by show _ ≤ C; omega, by show _ ≤ S; omega⟩ ?_
            intro v143 s143 q143
            obtain ⟨rfl, z143⟩ := q143
            rw [z143]
            clear z143
            
            refine zw_iinc dX3_addStepsBy_146 rfl (by decide) rfl ?_
            refine zw_goto (tgt := 55) dX3_addStepsBy_149 (by decide) ?_
            refine zw_loc (lc' := [(0, .ref 8), (1, .ref a), (2, .int (nI s)), (3, .ref 2), (4, .int aft), (5, .int (nI q)), (6, .int (nI m + 1))]) (zsub_cons rfl (zsub_cons rfl (zsub_cons rfl (zsub_cons rfl (zsub_cons rfl (zsub_cons rfl (zsub_cons rfl zsub_nil))))))) ?_
            rw [nI_1]
            refine ih (m + 1) _ pk1 n1 T1 po1 _ _ (by omega) hj1 (by have := hto.2.2.2.1; omega) (by omega) (by omega) (fun uc' us' e1 e2 => hK uc' us' (by omega) (by omega))
        · refine zw_goto (tgt := 146) dX3_addStepsBy_107 (by decide) ?_
          have hcond : xPair σ0 a (mid q m) k aft = false := by
            unfold xPair
            rw [zb_0, eb.1] at c104
            rw [c104]
            simp
          have hstep : xIn σ0 mid a k aft s q (d + 1) m σ = xIn σ0 mid a k aft s q d (m + 1) σ := by
            rw [xIn, hcond]
            rfl
          rw [hstep] at hc1 hc2 hK
          refine zw_iinc dX3_addStepsBy_146 rfl (by decide) rfl ?_
          refine zw_goto (tgt := 55) dX3_addStepsBy_149 (by decide) ?_
          refine zw_loc (lc' := [(0, .ref 8), (1, .ref a), (2, .int (nI s)), (3, .ref 2), (4, .int aft), (5, .int (nI q)), (6, .int (nI m + 1))]) (zsub_cons rfl (zsub_cons rfl (zsub_cons rfl (zsub_cons rfl (zsub_cons rfl (zsub_cons rfl (zsub_cons rfl zsub_nil))))))) ?_
          rw [nI_1]
          refine ih (m + 1) _ pk n T po _ _ (by omega) hj (by omega) (by omega) (by omega) (fun uc' us' e1 e2 => hK uc' us' (by omega) (by omega))
set_option maxHeartbeats 4000000 in
set_option maxRecDepth 100000 in
theorem lp_By_out {l : Launch} {σ0 : zS} {P p0 s a : Nat} {k aft : Int32} {mc : Nat → Nat} {mid : Nat → Nat → Nat} (h0 : xSh σ0) (hp0 : p0 = 16 ∨ 30 ≤ p0) (hpro : xPro σ0 P mc mid) (hma : zK σ0 a = 1) (hs : s < 400) {C S : Nat} {Q : Option Value → zS → Prop} :
    ∀ (d q : Nat) (σ : zS) (pk n T : Nat) (po : Nat → Nat) (uc us : Nat), q + d = P → xJ σ0 p0 s k σ pk n T po → T + 6 * d ≤ 512000 → uc + (zn (xOut σ0 mc mid a k aft s d q σ) - zn σ) ≤ C → us + 2 * (xLen (xOut σ0 mc mid a k aft s d q σ) - xLen σ) ≤ S → Q none (xOut σ0 mc mid a k aft s d q σ) →
    zAW l zmX3_addStepsBy { frames := 3, cells := C, slots := S, locals := 86 } 43 [(0, .ref 8), (1, .ref a), (2, .int (nI s)), (3, .ref 2), (4, .int aft), (5, .int (nI q))] [] σ uc us Q := by
  intro d
  induction d with
  | zero =>
    intro q σ pk n T po uc us hd hj hT hc1 hc2 hQ
    have hd : q = P := hd
    subst hd
    have h := hj.1.1
    have hpr := hpro.fr h0 hp0 hj.2.1
    refine zw_iload dX3_addStepsBy_43 rfl ?_
    refine zw_aload_n dX3_addStepsBy_45 rfl ?_
    refine zw_getI dX3_addStepsBy_46 zfX3_78 rfl (xk_2 h) (by decide) ?_
    rw [show zF σ 2 5 2 = nI q from hpr.1]
    refine zw_icmpge (tgt := 158) dX3_addStepsBy_49 (by decide) (fun c49 => ?_) (fun c49 => ?_)
    · refine zw_vret dX3_addStepsBy_158 rfl ?_
      exact hQ
    · exact absurd (nI_le (Nat.le_refl q) (by have := hpr.2.1; omega)) c49
  | succ d ih =>
    intro q σ pk n T po uc us hd hj hT hc1 hc2 hQ
    have h := hj.1.1
    have hpr := hpro.fr h0 hp0 hj.2.1
    have hP5 := hpr.2.1
    have hmc := hpr.2.2.1 q (by omega)
    obtain ⟨pk1, n1, T1, po1, hj1, hto⟩ := xJ_in (mid := mid) (a := a) (aft := aft) (q := q) (mc q) 0 hj (by omega)
    obtain ⟨pk2, n2, T2, po2, hj2, hto2⟩ := xJ_out (mc := mc) (mid := mid) (a := a) (aft := aft) d (q + 1) (fun q' g1 g2 => (hpr.2.2.1 q' (by omega)).2) hj1 (by have := hto.2.2.2.1; omega)
    have hz1 := hto.zn
    have hz2 := hto2.zn
    have hl1 := hto.len hj hj1
    have hl2 := hto2.len hj1 hj2
    rw [xOut] at hc1 hc2 hQ
    refine zw_iload dX3_addStepsBy_43 rfl ?_
    refine zw_aload_n dX3_addStepsBy_45 rfl ?_
    refine zw_getI dX3_addStepsBy_46 zfX3_78 rfl (xk_2 h) (by decide) ?_
    rw [show zF σ 2 5 2 = nI P from hpr.1]
    refine zw_icmpge (tgt := 158) dX3_addStepsBy_49 (by decide) (fun c49 => ?_) (fun c49 => ?_)
    · exact absurd c49 (nI_ge (show q < P by omega) (by omega))
    · refine zw_iconst (x := 0) dX3_addStepsBy_52 rfl ?_
      refine zw_istore dX3_addStepsBy_53 (by decide) rfl ?_
      refine zw_loc (lc' := [(0, .ref 8), (1, .ref a), (2, .int (nI s)), (3, .ref 2), (4, .int aft), (5, .int (nI q)), (6, .int (nI 0))]) (zsub_cons rfl (zsub_cons rfl (zsub_cons rfl (zsub_cons rfl (zsub_cons rfl (zsub_cons rfl (zsub_cons rfl zsub_nil))))))) ?_
      refine lp_By_in h0 hp0 hpro hma (by omega) hs (mc q) 0 σ pk n T po _ _ (Nat.zero_add _) hj (by omega) (by omega) (by omega) (fun uc1 us1 e1 e2 => ?_)
      refine zw_iinc dX3_addStepsBy_152 rfl (by decide) rfl ?_
      refine zw_goto (tgt := 43) dX3_addStepsBy_155 (by decide) ?_
      refine zw_loc (lc' := [(0, .ref 8), (1, .ref a), (2, .int (nI s)), (3, .ref 2), (4, .int aft), (5, .int (nI q + 1))]) (zsub_cons rfl (zsub_cons rfl (zsub_cons rfl (zsub_cons rfl (zsub_cons rfl (zsub_cons rfl zsub_nil)))))) ?_
      rw [nI_1]
      exact ih (q + 1) _ pk1 n1 T1 po1 _ _ (by omega) hj1 (by have := hto.2.2.2.1; omega) (by omega) (by omega) hQ
set_option maxHeartbeats 4000000 in
set_option maxRecDepth 100000 in
theorem c_X3_addStepsBy {l : Launch} {σ : zS} {σ0 : zS} {P p0 s pa ma pk n T : Nat} {k : Int32} {po mc : Nat → Nat} {mid : Nat → Nat → Nat} (h0 : xSh σ0) (hp0 : p0 = 16 ∨ 30 ≤ p0) (hpro : xPro σ0 P mc mid) (hpa : pa < P) (hma : ma < mc pa) (hs : s < 400) (hj : xJ σ0 p0 s k σ pk n T po) (hT : T + 18 ≤ 512000) : zAM l zmX3_addStepsBy 3 86 (zn (xBy σ0 P mc mid pa (mid pa ma) k s σ) - zn σ) (2 * (xLen (xBy σ0 P mc mid pa (mid pa ma) k s σ) - xLen σ)) [.ref 8, .ref (mid pa ma), .int (nI s), .ref 2] σ (fun v σ' => v = none ∧ σ' = xBy σ0 P mc mid pa (mid pa ma) k s σ) := by
  refine zAM.of (by decide +kernel) (Nat.le_of_ble_eq_true rfl) ?_
  have h := hj.1.1
  have hpr := hpro.fr h0 hp0 hj.2.1
  have hP5 := hpr.2.1
  have hfF := hj.2.1.2.2.2.2.1
  obtain ⟨-, hm0, hm0p, -⟩ := hpro.2.2.2 pa ma hpa hma
  obtain ⟨hx1, hm1, hm1p, -⟩ := hpr.2.2.2 pa ma hpa hma
  have ea := xOpen_fr hfF (mid pa ma) k
  have eha : zF σ 1 4 (mid pa ma) = zF σ0 1 4 (mid pa ma) := hfF _ _ _ (by decide)
  refine zw_aload_n dX3_addStepsBy_0 rfl ?_
  refine zw_aload_n dX3_addStepsBy_1 rfl ?_
  refine zw_aload_n dX3_addStepsBy_2 rfl ?_
  refine zw_getR dX3_addStepsBy_3 zfX3_11 rfl (xk_8 h) (by decide) (xg_3_0 h) ?_
  refine zw_iload_n dX3_addStepsBy_6 rfl ?_
  refine zw_iaload dX3_addStepsBy_7 (xk_9 h) (zin_of (xl_9 h) (vp_in_nI (by omega) (by omega))) ?_
  rw [nI_clamp (n := s) (by omega), hj.2.2.1]
  refine zw_callV (y' := zmX1_afterDeed) dX3_addStepsBy_8 zlX3_98 zmX1_afterDeed_ok hm1 (by decide) rfl (c_X1_afterDeed hm1 _) rfl rfl (Nat.le_of_ble_eq_true rfl) ⟨Nat.le_of_ble_eq_true rfl, Nat.le_of_ble_eq_true rfl⟩ ⟨Nat.zero_le _, Nat.zero_le _⟩ ?_
  intro v8 s8 q8
  obtain ⟨rfl, z8⟩ := q8
  rw [z8]
  clear z8
  refine zw_callV (y' := zmX1_afterGoing) dX3_addStepsBy_11 zlX3_101 zmX1_afterGoing_ok hm1 (by decide) rfl (c_X1_afterGoing hm1 _) rfl rfl (Nat.le_of_ble_eq_true rfl) ⟨Nat.le_of_ble_eq_true rfl, Nat.le_of_ble_eq_true rfl⟩ ⟨Nat.zero_le _, Nat.zero_le _⟩ ?_
  intro v11 s11 q11
  obtain ⟨rfl, z11⟩ := q11
  rw [z11]
  clear z11
  rw [ea.2.1, (xOpen_fr hfF (mid pa ma) (xAD σ0 (mid pa ma) k)).2.2.1]
  refine zw_istore dX3_addStepsBy_14 (by decide) rfl ?_
  refine zw_aload_n dX3_addStepsBy_16 rfl ?_
  refine zw_getI dX3_addStepsBy_17 zfX3_104 rfl hm1 (by decide) ?_
  refine zw_ifne (tgt := 35) dX3_addStepsBy_20 (by decide) (fun c20 => ?_) (fun c20 => ?_)
  · have hby : xBy σ0 P mc mid pa (mid pa ma) k s σ = xOut σ0 mc mid (mid pa ma) k (xAG σ0 (mid pa ma) (xAD σ0 (mid pa ma) k)) s (P - (pa + 1)) (pa + 1) σ := by
      unfold xBy
      rw [eha] at c20
      rw [if_neg c20]
    refine zw_aload_n dX3_addStepsBy_35 rfl ?_
    refine zw_getI dX3_addStepsBy_36 zfX3_115 rfl hm1 (by decide) ?_
    refine zw_iconst (x := 1) dX3_addStepsBy_39 rfl ?_
    refine zw_iadd dX3_addStepsBy_40 ?_
    refine zw_istore dX3_addStepsBy_41 (by decide) rfl ?_
    rw [hm1p, nI_1]
    refine zw_loc (lc' := [(0, .ref 8), (1, .ref (mid pa ma)), (2, .int (nI s)), (3, .ref 2), (4, .int (xAG σ0 (mid pa ma) (xAD σ0 (mid pa ma) k))), (5, .int (nI (pa + 1)))]) (zsub_cons rfl (zsub_cons rfl (zsub_cons rfl (zsub_cons rfl (zsub_cons rfl (zsub_cons rfl zsub_nil)))))) ?_
    rw [hby]
    exact lp_By_out h0 hp0 hpro hm0 hs (P - (pa + 1)) (pa + 1) σ pk n T po _ _ (by omega) hj (by omega) (by omega) (by omega) ⟨rfl, rfl⟩
  · have hby : xBy σ0 P mc mid pa (mid pa ma) k s σ = xStp σ s (xAG σ0 (mid pa ma) (xAD σ0 (mid pa ma) k)) (xPm σ0 (mid pa ma)) := by
      unfold xBy
      rw [eha] at c20
      rw [if_pos c20]
    refine zw_aload_n dX3_addStepsBy_23 rfl ?_
    refine zw_iload_n dX3_addStepsBy_24 rfl ?_
    refine zw_iload dX3_addStepsBy_25 rfl ?_
    refine zw_aload_n dX3_addStepsBy_27 rfl ?_
    refine zw_callS (y' := zmX3_packedMover) dX3_addStepsBy_28 zlX3_107 zmX3_packedMover_ok (c_X3_packedMover hm1) rfl rfl (Nat.le_of_ble_eq_true rfl) ⟨Nat.le_of_ble_eq_true rfl, Nat.le_of_ble_eq_true rfl⟩ ⟨Nat.zero_le _, Nat.zero_le _⟩ ?_
    intro v28 s28 q28
    obtain ⟨rfl, z28⟩ := q28
    rw [z28]
    clear z28
    rw [ea.2.2.2.1]
    refine zw_callV (y' := zmX3_addStep) dX3_addStepsBy_31 zlX3_111 zmX3_addStep_ok (xk_8 h) (by decide) rfl (c_X3_addStep hj.1 (by omega) hs) rfl rfl (Nat.le_of_ble_eq_true rfl) ⟨Nat.le_of_ble_eq_true rfl, Nat.le_of_ble_eq_true rfl⟩ ⟨by show _ ≤ zn (xBy σ0 P mc mid pa (mid pa ma) k s σ) - zn σ; rw [hby]; omega, by show _ ≤ 2 * (xLen (xBy σ0 P mc mid pa (mid pa ma) k s σ) - xLen σ); rw [hby]; omega⟩ ?_
    intro v31 s31 q31
    obtain ⟨rfl, z31⟩ := q31
    rw [z31]
    clear z31
    refine zw_vret dX3_addStepsBy_34 rfl ?_
    exact ⟨rfl, hby.symm⟩
end
section
/-! all steps of a state -/
theorem xJ_by {σ0 σ : zS} {P p0 s pa a pk n T : Nat} {k : Int32} {po mc : Nat → Nat} {mid : Nat → Nat → Nat} (hP : P ≤ 3) (hm : ∀ q, q < P → mc q ≤ 6) (h : xJ σ0 p0 s k σ pk n T po) (hT : T + 18 ≤ 512000) :
    ∃ pk' n' T' po', xJ σ0 p0 s k (xBy σ0 P mc mid pa a k s σ) pk' n' T' po' ∧ xTo σ pk n T (xBy σ0 P mc mid pa a k s σ) pk' n' T' 18 := by
  unfold xBy
  split
  · obtain ⟨pk1, n1, T1, po1, h1, h2⟩ := xJ_stp h (by omega) (xAG σ0 a (xAD σ0 a k)) (xPm σ0 a)
    exact ⟨pk1, n1, T1, po1, h1, h2.wid (by omega)⟩
  · obtain ⟨pk1, n1, T1, po1, h1, h2⟩ := xJ_out (mc := mc) (mid := mid) (a := a) (aft := xAG σ0 a (xAD σ0 a k)) (P - (pa + 1)) (pa + 1) (fun q g1 g2 => hm q (by omega)) h (by omega)
    exact ⟨pk1, n1, T1, po1, h1, h2.wid (by omega)⟩
/-- the moves of the process p, from m on, d of them -/
def xMvI (σ0 : zS) (P : Nat) (mc : Nat → Nat) (mid : Nat → Nat → Nat) (k : Int32) (s p : Nat) : Nat → Nat → zS → zS
  | 0, _, σ => σ
  | d + 1, m, σ => xMvI σ0 P mc mid k s p d (m + 1) (if xOpen σ0 (mid p m) k = true then xBy σ0 P mc mid p (mid p m) k s σ else σ)
def xMvO (σ0 : zS) (P : Nat) (mc : Nat → Nat) (mid : Nat → Nat → Nat) (k : Int32) (s : Nat) : Nat → Nat → zS → zS
  | 0, _, σ => σ
  | d + 1, p, σ => xMvO σ0 P mc mid k s d (p + 1) (xMvI σ0 P mc mid k s p (mc p) 0 σ)
/-- all steps of the state s, which has the key k -/
def xOf (σ0 : zS) (P : Nat) (mc : Nat → Nat) (mid : Nat → Nat → Nat) (k : Int32) (s : Nat) (σ : zS) : zS :=
  zsI (xMvO σ0 P mc mid k s P 0 (zsI (zsI σ 13 s 0) 14 s (xT σ))) 14 (s + 1) (xT (xMvO σ0 P mc mid k s P 0 (zsI (zsI σ 13 s 0) 14 s (xT σ))))
theorem xJ_set {σ0 σ : zS} {p0 s pk n T : Nat} {k : Int32} {po : Nat → Nat} (h : xJ σ0 p0 s k σ pk n T po) {a : Nat} (ha : a = 13 ∨ a = 14) (i : Nat) (x : Int32) : xJ σ0 p0 s k (zsI σ a i x) pk n T po ∧ xTo σ pk n T (zsI σ a i x) pk n T 0 := by
  have e : ∀ b, b ≠ a → zI (zsI σ a i x) b = zI σ b := fun b hb => funext fun j => by rw [zI_zsI, if_neg (fun q => hb q.1)]
  have ht : xTo σ pk n T (zsI σ a i x) pk n T 0 := ⟨xFr.upd rfl rfl rfl (fun _ _ _ _ => rfl) rfl (fun b hb _ => e b (by omega)) rfl rfl, Nat.le_refl _, Nat.le_refl _, Nat.le_refl _, Nat.le_refl _, fun j _ => by rw [e 9 (by omega)]⟩
  obtain ⟨⟨h1, h2, h3, h4⟩, hj⟩ := id h
  exact ⟨h.to ⟨h1, h2, h3.congr (e 9 (by omega)) (e 15 (by omega)), h4⟩ ht, ht⟩
theorem xJ_mvI {σ0 : zS} {P p0 s p : Nat} {k : Int32} {mc : Nat → Nat} {mid : Nat → Nat → Nat} (hP : P ≤ 3) (hm : ∀ q, q < P → mc q ≤ 6) : ∀ (d m : Nat) {σ : zS} {pk n T : Nat} {po : Nat → Nat}, xJ σ0 p0 s k σ pk n T po → T + 18 * d ≤ 512000 → ∃ pk' n' T' po', xJ σ0 p0 s k (xMvI σ0 P mc mid k s p d m σ) pk' n' T' po' ∧ xTo σ pk n T (xMvI σ0 P mc mid k s p d m σ) pk' n' T' (18 * d)
  | 0, m, σ, pk, n, T, po, h, hT => ⟨pk, n, T, po, h, xTo.rf _ _ _ _ _⟩
  | d + 1, m, σ, pk, n, T, po, h, hT => by
    unfold xMvI
    split
    · obtain ⟨pk1, n1, T1, po1, h1, h2⟩ := xJ_by (pa := p) (a := mid p m) hP hm (mid := mid) h (by omega)
      obtain ⟨pk2, n2, T2, po2, h3, h4⟩ := xJ_mvI (p := p) (mid := mid) hP hm d (m + 1) h1 (by have := h2.2.2.2.1; omega)
      exact ⟨pk2, n2, T2, po2, h3, (h2.tr h4).wid (by omega)⟩
    · obtain ⟨pk2, n2, T2, po2, h3, h4⟩ := xJ_mvI (p := p) (mid := mid) hP hm d (m + 1) h (by omega)
      exact ⟨pk2, n2, T2, po2, h3, h4.wid (by omega)⟩
theorem xJ_mvO {σ0 : zS} {P p0 s : Nat} {k : Int32} {mc : Nat → Nat} {mid : Nat → Nat → Nat} (hP : P ≤ 3) (hm : ∀ q, q < P → mc q ≤ 6) : ∀ (d p : Nat) {σ : zS} {pk n T : Nat} {po : Nat → Nat}, p + d ≤ P → xJ σ0 p0 s k σ pk n T po → T + 108 * d ≤ 512000 → ∃ pk' n' T' po', xJ σ0 p0 s k (xMvO σ0 P mc mid k s d p σ) pk' n' T' po' ∧ xTo σ pk n T (xMvO σ0 P mc mid k s d p σ) pk' n' T' (108 * d)
  | 0, p, σ, pk, n, T, po, hd, h, hT => ⟨pk, n, T, po, h, xTo.rf _ _ _ _ _⟩
  | d + 1, p, σ, pk, n, T, po, hd, h, hT => by
    unfold xMvO
    have := hm p (by omega)
    obtain ⟨pk1, n1, T1, po1, h1, h2⟩ := xJ_mvI (p := p) (mid := mid) hP hm (mc p) 0 h (by omega)
    obtain ⟨pk2, n2, T2, po2, h3, h4⟩ := xJ_mvO (mid := mid) hP hm d (p + 1) (by omega) h1 (by have := h2.2.2.2.1; omega)
    exact ⟨pk2, n2, T2, po2, h3, (h2.tr h4).wid (by omega)⟩
theorem xJ_of {σ0 σ : zS} {P p0 s pk n T : Nat} {k : Int32} {po mc : Nat → Nat} {mid : Nat → Nat → Nat} (hP : P ≤ 3) (hm : ∀ q, q < P → mc q ≤ 6) (h : xJ σ0 p0 s k σ pk n T po) (hT : T + 324 ≤ 512000) :
    ∃ pk' n' T' po', xJ σ0 p0 s k (xOf σ0 P mc mid k s σ) pk' n' T' po' ∧ xTo σ pk n T (xOf σ0 P mc mid k s σ) pk' n' T' 324 := by
  obtain ⟨a1, a2⟩ := xJ_set h (Or.inl rfl) s 0
  obtain ⟨b1, b2⟩ := xJ_set a1 (Or.inr rfl) s (xT σ)
  obtain ⟨pk1, n1, T1, po1, h1, h2⟩ := xJ_mvO (mid := mid) hP hm P 0 (by omega) b1 (by omega)
  obtain ⟨c1, c2⟩ := xJ_set h1 (Or.inr rfl) (s + 1) (xT (xMvO σ0 P mc mid k s P 0 (zsI (zsI σ 13 s 0) 14 s (xT σ))))
  exact ⟨pk1, n1, T1, po1, c1, ((a2.tr b2).tr (h2.tr c2)).wid (by omega)⟩
set_option maxHeartbeats 4000000 in
set_option maxRecDepth 100000 in
theorem lp_Of_in {l : Launch} {σ0 : zS} {P p0 s : Nat} {k : Int32} {mc : Nat → Nat} {mid : Nat → Nat → Nat} (h0 : xSh σ0) (hp0 : p0 = 16 ∨ 30 ≤ p0) (hpro : xPro σ0 P mc mid) (hs : s < 400) {p : Nat} (hp : p < P) {C S : Nat} {Q : Option Value → zS → Prop} :
    ∀ (d m : Nat) (σ : zS) (pk n T : Nat) (po : Nat → Nat) (uc us : Nat), m + d = mc p → xJ σ0 p0 s k σ pk n T po → T + 18 * d ≤ 512000 → uc + (zn (xMvI σ0 P mc mid k s p d m σ) - zn σ) ≤ C → us + 2 * (xLen (xMvI σ0 P mc mid k s p d m σ) - xLen σ) ≤ S →
    (∀ uc' us', uc' = uc + (zn (xMvI σ0 P mc mid k s p d m σ) - zn σ) → us' = us + 2 * (xLen (xMvI σ0 P mc mid k s p d m σ) - xLen σ) → zAW l zmX3_addStepsOf { frames := 4, cells := C, slots := S, locals := 114 } 88 [(0, .ref 8), (1, .int (nI s)), (2, .ref 2), (3, .int k), (4, .int (nI p)), (5, .int (nI (mc p)))] [] (xMvI σ0 P mc mid k s p d m σ) uc' us' Q) →
    zAW l zmX3_addStepsOf { frames := 4, cells := C, slots := S, locals := 114 } 39 [(0, .ref 8), (1, .int (nI s)), (2, .ref 2), (3, .int k), (4, .int (nI p)), (5, .int (nI m))] [] σ uc us Q := by
  intro d
  induction d with
  | zero =>
    intro m σ pk n T po uc us hd hj hT hc1 hc2 hK
    have hd : m = mc p := hd
    subst hd
    have h := hj.1.1
    have hpr := hpro.fr h0 hp0 hj.2.1
    have hmc := hpr.2.2.1 p hp
    refine zw_iload dX3_addStepsOf_39 rfl ?_
    refine zw_aload_n dX3_addStepsOf_41 rfl ?_
    refine zw_iload dX3_addStepsOf_42 rfl ?_
    refine zw_callV (y' := zmX2_movesOf) dX3_addStepsOf_44 zlX3_81 zmX2_movesOf_ok (xk_2 h) (by decide) rfl (c_X2_movesOf h hpr.1 (Nat.le_trans hpr.2.1 (by decide)) hp) rfl rfl (Nat.le_of_ble_eq_true rfl) ⟨Nat.le_of_ble_eq_true rfl, Nat.le_of_ble_eq_true rfl⟩ ⟨by show _ ≤ C; omega, by show _ ≤ S; omega⟩ ?_
    intro v44 s44 q44
    obtain ⟨rfl, z44⟩ := q44
    rw [z44]
    clear z44
    rw [hmc.1]
    refine zw_icmpge (tgt := 88) dX3_addStepsOf_47 (by decide) (fun c47 => ?_) (fun c47 => ?_)
    · exact hK _ _ (by rw [show xMvI σ0 P mc mid k s p 0 (mc p) σ = σ from rfl]; omega) (by rw [show xMvI σ0 P mc mid k s p 0 (mc p) σ = σ from rfl]; omega)
    · exact absurd (nI_le (Nat.le_refl (mc p)) (by omega)) c47
  | succ d ih =>
    intro m σ pk n T po uc us hd hj hT hc1 hc2 hK
    have h := hj.1.1
    have hpr := hpro.fr h0 hp0 hj.2.1
    have hmc := hpr.2.2.1 p hp
    have hfF := hj.2.1.2.2.2.2.1
    have hmlt : m < mc p := by omega
    have hm16 : ∀ q, q < P → mc q ≤ 6 := fun q hq => (hpro.2.2.1 q hq).2
    obtain ⟨hb1, hb2, hb3, hb4⟩ := hpr.2.2.2 p m hp hmlt
    have eb := xOpen_fr hfF (mid p m) k
    refine zw_iload dX3_addStepsOf_39 rfl ?_
    refine zw_aload_n dX3_addStepsOf_41 rfl ?_
    refine zw_iload dX3_addStepsOf_42 rfl ?_
    refine zw_callV (y' := zmX2_movesOf) dX3_addStepsOf_44 zlX3_81 zmX2_movesOf_ok (xk_2 h) (by decide) rfl (c_X2_movesOf h hpr.1 (Nat.le_trans hpr.2.1 (by decide)) hp) rfl rfl (Nat.le_of_ble_eq_true rfl) ⟨Nat.le_of_ble_eq_true rfl, Nat.le_of_ble_eq_true rfl⟩ ⟨by show _ ≤ C; omega, by show _ ≤ S; omega⟩ ?_
    intro v44 s44 q44
    obtain ⟨rfl, z44⟩ := q44
    rw [z44]
    clear z44
    rw [hmc.1]
    refine zw_icmpge (tgt := 88) dX3_addStepsOf_47 (by decide) (fun c47 => ?_) (fun c47 => ?_)
    · exact absurd c47 (nI_ge hmlt (by omega))
    · refine zw_aload_n dX3_addStepsOf_50 rfl ?_
      refine zw_iload dX3_addStepsOf_51 rfl ?_
      refine zw_iload dX3_addStepsOf_53 rfl ?_
      refine zw_callV (y' := zmX2_find) dX3_addStepsOf_55 zlX3_84 zmX2_find_ok (xk_2 h) (by decide) rfl (c_X2_find h hpr.1 (Nat.le_trans hpr.2.1 (by decide)) hp hmc.1 hmlt (Nat.le_trans hmc.2 (by decide)) hb1) rfl rfl (Nat.le_of_ble_eq_true rfl) ⟨Nat.le_of_ble_eq_true rfl, Nat.le_of_ble_eq_true rfl⟩ ⟨by show _ ≤ C; omega, by show _ ≤ S; omega⟩ ?_
      intro v55 s55 q55
      obtain ⟨rfl, z55⟩ := q55
      rw [z55]
      clear z55
      refine zw_astore dX3_addStepsOf_58 (by decide) rfl ?_
      refine zw_aload dX3_addStepsOf_60 rfl ?_
      refine zw_ifnull dX3_addStepsOf_62 ?_
      refine zw_aload dX3_addStepsOf_65 rfl ?_
      refine zw_iload_n dX3_addStepsOf_67 rfl ?_
      refine zw_callV (y' := zmX1_isOpenIn) dX3_addStepsOf_68 zlX3_88 zmX1_isOpenIn_ok hb2 (by decide) rfl (c_X1_isOpenIn hb2 _) rfl rfl (Nat.le_of_ble_eq_true rfl) ⟨Nat.le_of_ble_eq_true rfl, Nat.le_of_ble_eq_true rfl⟩ ⟨by show _ ≤ C; omega, by show _ ≤ S; omega⟩ ?_
      intro v68 s68 q68
      obtain ⟨rfl, z68⟩ := q68
      rw [z68]
      clear z68
      refine zw_ifeq (tgt := 82) dX3_addStepsOf_71 (by decide) (fun c71 => ?_) (fun c71 => ?_)
      · rw [zb_0, eb.1] at c71
        have hstep : xMvI σ0 P mc mid k s p (d + 1) m σ = xMvI σ0 P mc mid k s p d (m + 1) σ := by
          rw [xMvI, if_neg (by rw [c71]; decide)]
        rw [hstep] at hc1 hc2 hK
        refine zw_iinc dX3_addStepsOf_82 rfl (by decide) rfl ?_
        refine zw_goto (tgt := 39) dX3_addStepsOf_85 (by decide) ?_
        refine zw_loc (lc' := [(0, .ref 8), (1, .int (nI s)), (2, .ref 2), (3, .int k), (4, .int (nI p)), (5, .int (nI m + 1))]) (zsub_cons rfl (zsub_cons rfl (zsub_cons rfl (zsub_cons rfl (zsub_cons rfl (zsub_cons rfl zsub_nil)))))) ?_
        rw [nI_1]
        exact ih (m + 1) σ pk n T po _ _ (by omega) hj (by omega) (by omega) (by omega) (fun uc' us' e1 e2 => hK uc' us' (by omega) (by omega))
      · rw [zb_1, eb.1] at c71
        have hstep : xMvI σ0 P mc mid k s p (d + 1) m σ = xMvI σ0 P mc mid k s p d (m + 1) (xBy σ0 P mc mid p (mid p m) k s σ) := by
          rw [xMvI, if_pos c71]
        rw [hstep] at hc1 hc2 hK
        obtain ⟨pk1, n1, T1, po1, hj1, hto⟩ := xJ_by (pa := p) (a := mid p m) hpro.2.1 hm16 (mid := mid) hj (by omega)
        obtain ⟨pk2, n2, T2, po2, hj2, hto2⟩ := xJ_mvI (p := p) (mid := mid) hpro.2.1 hm16 d (m + 1) hj1 (by have := hto.2.2.2.1; omega)
        have hz1 := hto.zn
        have hz2 := hto2.zn
        have hl1 := hto.len hj hj1
        have hl2 := hto2.len hj1 hj2
        refine zw_aload_n dX3_addStepsOf_74 rfl ?_
        refine zw_aload dX3_addStepsOf_75 rfl ?_
        refine zw_iload_n dX3_addStepsOf_77 rfl ?_
        refine zw_aload_n dX3_addStepsOf_78 rfl ?_
        refine zw_callV (y' := zmX3_addStepsBy) dX3_addStepsOf_79 zlX3_94 zmX3_addStepsBy_ok (xk_8 h) (by decide) rfl (c_X3_addStepsBy h0 hp0 hpro hp hmlt hs hj (by omega)) rfl rfl (Nat.le_of_ble_eq_true rfl) ⟨Nat.le_of_ble_eq_true rfl, Nat.le_of_ble_eq_true rfl⟩ ⟨by show _ ≤ C; omega, by show _ ≤ S; omega⟩ ?_
        intro v79 s79 q79
        obtain ⟨rfl, z79⟩ := q79
        rw [z79]
        clear z79
        
        refine zw_iinc dX3_addStepsOf_82 rfl (by decide) rfl ?_
        refine zw_goto (tgt := 39) dX3_addStepsOf_85 (by decide) ?_
        refine zw_loc (lc' := [(0, .ref 8), (1, .int (nI s)), (2, .ref 2), (3, .int k), (4, .int (nI p)), (5, .int (nI m + 1))]) (zsub_cons rfl (zsub_cons rfl (zsub_cons rfl (zsub_cons rfl (zsub_cons rfl (zsub_cons rfl zsub_nil)))))) ?_
        rw [nI_1]
        exact ih (m + 1) _ pk1 n1 T1 po1 _ _ (by omega) hj1 (by have := hto.2.2.2.1; omega) (by omega) (by omega) (fun uc' us' e1 e2 => hK uc' us' (by omega) (by omega))
set_option maxHeartbeats 4000000 in
set_option maxRecDepth 100000 in
theorem lp_Of_out {l : Launch} {σ0 : zS} {P p0 s : Nat} {k : Int32} {mc : Nat → Nat} {mid : Nat → Nat → Nat} (h0 : xSh σ0) (hp0 : p0 = 16 ∨ 30 ≤ p0) (hpro : xPro σ0 P mc mid) (hs : s < 400) {C S : Nat} {Q : Option Value → zS → Prop} :
    ∀ (d p : Nat) (σ : zS) (pk n T : Nat) (po : Nat → Nat) (uc us : Nat), p + d = P → xJ σ0 p0 s k σ pk n T po → T + 108 * d ≤ 512000 → uc + (zn (xMvO σ0 P mc mid k s d p σ) - zn σ) ≤ C → us + 2 * (xLen (xMvO σ0 P mc mid k s d p σ) - xLen σ) ≤ S → Q none (zsI (xMvO σ0 P mc mid k s d p σ) 14 (s + 1) (xT (xMvO σ0 P mc mid k s d p σ))) →
    zAW l zmX3_addStepsOf { frames := 4, cells := C, slots := S, locals := 114 } 27 [(0, .ref 8), (1, .int (nI s)), (2, .ref 2), (3, .int k), (4, .int (nI p))] [] σ uc us Q := by
  intro d
  induction d with
  | zero =>
    intro p σ pk n T po uc us hd hj hT hc1 hc2 hQ
    have hd : p = P := hd
    subst hd
    have h := hj.1.1
    have hpr := hpro.fr h0 hp0 hj.2.1
    refine zw_iload dX3_addStepsOf_27 rfl ?_
    refine zw_aload_n dX3_addStepsOf_29 rfl ?_
    refine zw_getI dX3_addStepsOf_30 zfX3_78 rfl (xk_2 h) (by decide) ?_
    rw [show zF σ 2 5 2 = nI p from hpr.1]
    refine zw_icmpge (tgt := 94) dX3_addStepsOf_33 (by decide) (fun c33 => ?_) (fun c33 => ?_)
    · refine zw_aload_n dX3_addStepsOf_94 rfl ?_
      refine zw_getR dX3_addStepsOf_95 zfX3_27 rfl (xk_8 h) (by decide) (xg_3_5 h) ?_
      refine zw_iload_n dX3_addStepsOf_98 rfl ?_
      refine zw_iconst (x := 1) dX3_addStepsOf_99 rfl ?_
      refine zw_iadd dX3_addStepsOf_100 ?_
      refine zw_aload_n dX3_addStepsOf_101 rfl ?_
      refine zw_getI dX3_addStepsOf_102 zfX3_44 rfl (xk_8 h) (by decide) ?_
      refine zw_iastore dX3_addStepsOf_105 (xk_14 h) (by decide) (zin_of (xl_14 h) (by rw [nI_1]; exact vp_in_nI (by omega) (by omega))) ?_
      refine zw_vret dX3_addStepsOf_106 rfl ?_
      rw [nI_1, nI_clamp (by omega)]
      exact hQ
    · exact absurd (nI_le (Nat.le_refl p) (by have := hpr.2.1; omega)) c33
  | succ d ih =>
    intro p σ pk n T po uc us hd hj hT hc1 hc2 hQ
    have h := hj.1.1
    have hpr := hpro.fr h0 hp0 hj.2.1
    have hP5 := hpr.2.1
    have hmc := hpr.2.2.1 p (by omega)
    have hm16 : ∀ q, q < P → mc q ≤ 6 := fun q hq => (hpro.2.2.1 q hq).2
    obtain ⟨pk1, n1, T1, po1, hj1, hto⟩ := xJ_mvI (p := p) (mid := mid) hpro.2.1 hm16 (mc p) 0 hj (by omega)
    obtain ⟨pk2, n2, T2, po2, hj2, hto2⟩ := xJ_mvO (mid := mid) hpro.2.1 hm16 d (p + 1) (by omega) hj1 (by have := hto.2.2.2.1; omega)
    have hz1 := hto.zn
    have hz2 := hto2.zn
    have hl1 := hto.len hj hj1
    have hl2 := hto2.len hj1 hj2
    rw [xMvO] at hc1 hc2 hQ
    refine zw_iload dX3_addStepsOf_27 rfl ?_
    refine zw_aload_n dX3_addStepsOf_29 rfl ?_
    refine zw_getI dX3_addStepsOf_30 zfX3_78 rfl (xk_2 h) (by decide) ?_
    rw [show zF σ 2 5 2 = nI P from hpr.1]
    refine zw_icmpge (tgt := 94) dX3_addStepsOf_33 (by decide) (fun c33 => ?_) (fun c33 => ?_)
    · exact absurd c33 (nI_ge (show p < P by omega) (by omega))
    · refine zw_iconst (x := 0) dX3_addStepsOf_36 rfl ?_
      refine zw_istore dX3_addStepsOf_37 (by decide) rfl ?_
      refine zw_loc (lc' := [(0, .ref 8), (1, .int (nI s)), (2, .ref 2), (3, .int k), (4, .int (nI p)), (5, .int (nI 0))]) (zsub_cons rfl (zsub_cons rfl (zsub_cons rfl (zsub_cons rfl (zsub_cons rfl (zsub_cons rfl zsub_nil)))))) ?_
      refine lp_Of_in h0 hp0 hpro hs (by omega) (mc p) 0 σ pk n T po _ _ (Nat.zero_add _) hj (by omega) (by omega) (by omega) (fun uc1 us1 e1 e2 => ?_)
      refine zw_iinc dX3_addStepsOf_88 rfl (by decide) rfl ?_
      refine zw_goto (tgt := 27) dX3_addStepsOf_91 (by decide) ?_
      refine zw_loc (lc' := [(0, .ref 8), (1, .int (nI s)), (2, .ref 2), (3, .int k), (4, .int (nI p + 1))]) (zsub_cons rfl (zsub_cons rfl (zsub_cons rfl (zsub_cons rfl (zsub_cons rfl zsub_nil))))) ?_
      rw [nI_1]
      exact ih (p + 1) _ pk1 n1 T1 po1 _ _ (by omega) hj1 (by have := hto.2.2.2.1; omega) (by omega) (by omega) hQ
set_option maxHeartbeats 4000000 in
set_option maxRecDepth 100000 in
theorem c_X3_addStepsOf {l : Launch} {σ : zS} {σ0 : zS} {P p0 s pk n T : Nat} {k : Int32} {po mc : Nat → Nat} {mid : Nat → Nat → Nat} (h0 : xSh σ0) (hp0 : p0 = 16 ∨ 30 ≤ p0) (hpro : xPro σ0 P mc mid) (hs : s < 400) (hj : xJ σ0 p0 s k σ pk n T po) (hT : T + 324 ≤ 512000) : zAM l zmX3_addStepsOf 4 114 (zn (xOf σ0 P mc mid k s σ) - zn σ) (2 * (xLen (xOf σ0 P mc mid k s σ) - xLen σ)) [.ref 8, .int (nI s), .ref 2] σ (fun v σ' => v = none ∧ σ' = xOf σ0 P mc mid k s σ) := by
  refine zAM.of (by decide +kernel) (Nat.le_of_ble_eq_true rfl) ?_
  have h := hj.1.1
  have hP5 := hpro.2.1
  obtain ⟨a1, a2⟩ := xJ_set hj (Or.inl rfl) s 0
  obtain ⟨b1, b2⟩ := xJ_set a1 (Or.inr rfl) s (xT σ)
  refine zw_aload_n dX3_addStepsOf_0 rfl ?_
  refine zw_getR dX3_addStepsOf_1 zfX3_11 rfl (xk_8 h) (by decide) (xg_3_0 h) ?_
  refine zw_iload_n dX3_addStepsOf_4 rfl ?_
  refine zw_iaload dX3_addStepsOf_5 (xk_9 h) (zin_of (xl_9 h) (vp_in_nI (by omega) (by omega))) ?_
  rw [nI_clamp (n := s) (by omega), hj.2.2.1]
  refine zw_istore_n dX3_addStepsOf_6 (by decide) rfl ?_
  refine zw_aload_n dX3_addStepsOf_7 rfl ?_
  refine zw_getR dX3_addStepsOf_8 zfX3_24 rfl (xk_8 h) (by decide) (xg_3_4 h) ?_
  refine zw_iload_n dX3_addStepsOf_11 rfl ?_
  refine zw_iconst (x := 0) dX3_addStepsOf_12 rfl ?_
  refine zw_iastore dX3_addStepsOf_13 (xk_13 h) (by decide) (zin_of (xl_13 h) (vp_in_nI (by omega) (by omega))) ?_
  rw [nI_clamp (n := s) (by omega)]
  refine zw_aload_n dX3_addStepsOf_14 rfl ?_
  refine zw_getR dX3_addStepsOf_15 zfX3_27 rfl (xk_8 h) (by decide) (xg_3_5 h) ?_
  refine zw_iload_n dX3_addStepsOf_18 rfl ?_
  refine zw_aload_n dX3_addStepsOf_19 rfl ?_
  refine zw_getI dX3_addStepsOf_20 zfX3_44 rfl (xk_8 h) (by decide) ?_
  refine zw_iastore dX3_addStepsOf_23 (xk_14 h) (by decide) (zin_of (xl_14 h) (vp_in_nI (by omega) (by omega))) ?_
  refine zw_iconst (x := 0) dX3_addStepsOf_24 rfl ?_
  refine zw_istore dX3_addStepsOf_25 (by decide) rfl ?_
  rw [nI_clamp (n := s) (by omega)]
  refine zw_loc (lc' := [(0, .ref 8), (1, .int (nI s)), (2, .ref 2), (3, .int k), (4, .int (nI 0))]) (zsub_cons rfl (zsub_cons rfl (zsub_cons rfl (zsub_cons rfl (zsub_cons rfl zsub_nil))))) ?_
  exact lp_Of_out h0 hp0 hpro hs P 0 (zsI (zsI σ 13 s 0) 14 s (xT σ)) pk n T po 0 0 (Nat.zero_add P) b1 (by omega) (Nat.le_of_eq (Nat.zero_add _)) (Nat.le_of_eq (Nat.zero_add _)) ⟨rfl, rfl⟩
end
section
/-! the exploring -/
/-- the key of the beginning: the variables from v on, d of them, laid into k -/
def xKb (σ : zS) : Nat → Nat → Int32 → Int32
  | 0, _, k => k
  | d + 1, v, k => xKb σ d (v + 1) (xWVal k (nI v) (zI σ 7 v))
set_option maxHeartbeats 4000000 in
set_option maxRecDepth 100000 in
theorem lp_key {l : Launch} {σ : zS} {V : Nat} (h : xSh σ) (hV : xV σ = nI V) (hV4 : V ≤ 4) {Q : Option Value → zS → Prop} : ∀ (d v : Nat) (k : Int32), v + d = V → Q (some (.int (xKb σ d v k))) σ → zAW l zmX2_keyAtBeginning { frames := 1, cells := 0, slots := 0, locals := 23 } 4 [(0, .ref 2), (1, .int k), (2, .int (nI v))] [] σ 0 0 Q := by
  intro d
  induction d with
  | zero =>
    intro v k hd hQ
    have hd : v = V := hd
    subst hd
    refine zw_iload_n dX2_keyAtBeginning_4 rfl ?_
    refine zw_aload_n dX2_keyAtBeginning_5 rfl ?_
    refine zw_getI dX2_keyAtBeginning_6 zfX2_38 rfl (xk_2 h) (by decide) ?_
    rw [show zF σ 2 6 2 = nI v from hV]
    refine zw_icmpge (tgt := 30) dX2_keyAtBeginning_9 (by decide) (fun c9 => ?_) (fun c9 => ?_)
    · refine zw_iload_n dX2_keyAtBeginning_30 rfl ?_
      refine zw_iret dX2_keyAtBeginning_31 rfl rfl ?_
      exact hQ
    · exact absurd (nI_le (Nat.le_refl v) (by omega)) c9
  | succ d ih =>
    intro v k hd hQ
    refine zw_iload_n dX2_keyAtBeginning_4 rfl ?_
    refine zw_aload_n dX2_keyAtBeginning_5 rfl ?_
    refine zw_getI dX2_keyAtBeginning_6 zfX2_38 rfl (xk_2 h) (by decide) ?_
    rw [show zF σ 2 6 2 = nI V from hV]
    refine zw_icmpge (tgt := 30) dX2_keyAtBeginning_9 (by decide) (fun c9 => ?_) (fun c9 => ?_)
    · exact absurd c9 (nI_ge (show v < V by omega) (by omega))
    · refine zw_iload_n dX2_keyAtBeginning_12 rfl ?_
      refine zw_iload_n dX2_keyAtBeginning_13 rfl ?_
      refine zw_aload_n dX2_keyAtBeginning_14 rfl ?_
      refine zw_getR dX2_keyAtBeginning_15 zfX2_27 rfl (xk_2 h) (by decide) (xg_2_4 h) ?_
      refine zw_iload_n dX2_keyAtBeginning_18 rfl ?_
      refine zw_iaload dX2_keyAtBeginning_19 (xk_7 h) (zin_of (xl_7 h) (vp_in_nI (by omega) (by omega))) ?_
      rw [nI_clamp (n := v) (by omega)]
      refine zw_callS (y' := zmX5_withValue) dX2_keyAtBeginning_20 zlX2_51 zmX5_withValue_ok (c_X5_withValue _ _ _) rfl rfl (Nat.le_of_ble_eq_true rfl) ⟨Nat.le_of_ble_eq_true rfl, Nat.le_of_ble_eq_true rfl⟩ ⟨Nat.le_of_ble_eq_true rfl, Nat.le_of_ble_eq_true rfl⟩ ?_
      intro v20 s20 q20
      obtain ⟨rfl, z20⟩ := q20
      rw [z20]
      clear z20
      refine zw_istore_n dX2_keyAtBeginning_23 (by decide) rfl ?_
      refine zw_iinc dX2_keyAtBeginning_24 rfl (by decide) rfl ?_
      refine zw_goto (tgt := 4) dX2_keyAtBeginning_27 (by decide) ?_
      refine zw_loc (lc' := [(0, .ref 2), (1, .int (xWVal k (nI v) (zI σ 7 v))), (2, .int (nI v + 1))]) (zsub_cons rfl (zsub_cons rfl (zsub_cons rfl zsub_nil))) ?_
      rw [nI_1]
      exact ih (v + 1) _ (by omega) hQ
set_option maxHeartbeats 4000000 in
set_option maxRecDepth 100000 in
theorem c_X2_keyAtBeginning {l : Launch} {σ : zS} {V : Nat} (h : xSh σ) (hV : xV σ = nI V) (hV4 : V ≤ 4) : zAM l zmX2_keyAtBeginning 1 23 0 0 [.ref 2] σ (fun v σ' => v = some (.int (xKb σ V 0 0)) ∧ σ' = σ) := by
  refine zAM.of (by decide +kernel) (Nat.le_of_ble_eq_true rfl) ?_
  refine zw_iconst (x := 0) dX2_keyAtBeginning_0 rfl ?_
  refine zw_istore_n dX2_keyAtBeginning_1 (by decide) rfl ?_
  refine zw_iconst (x := 0) dX2_keyAtBeginning_2 rfl ?_
  refine zw_istore_n dX2_keyAtBeginning_3 (by decide) rfl ?_
  refine zw_loc (lc' := [(0, .ref 2), (1, .int 0), (2, .int (nI 0))]) (zsub_cons rfl (zsub_cons rfl (zsub_cons rfl zsub_nil))) ?_
  exact lp_key h hV hV4 V 0 0 (Nat.zero_add V) ⟨rfl, rfl⟩
theorem xKb_congr {σ σ' : zS} (h : zI σ' 7 = zI σ 7) : ∀ (d v : Nat) (k : Int32), xKb σ' d v k = xKb σ d v k
  | 0, v, k => rfl
  | d + 1, v, k => by rw [xKb, xKb, h]; exact xKb_congr h d (v + 1) _
/-- everything forgotten, every slot free -/
def xClr (σ : zS) : zS := zsW (zsF (zsF (zsF σ 3 8 8 0) 3 9 8 0) 3 10 8 0) 15 (fun j => if 0 ≤ j ∧ j < 1024 then -1 else zI σ 15 j)
/-- the state 0 laid -/
def xBg (σ : zS) (k : Int32) : zS := xNew (xClr σ) k (xHash k) 0 0 0
/-- state by state, from s on, while there are such -/
def xFl (σ0 : zS) (P : Nat) (mc : Nat → Nat) (mid : Nat → Nat → Nat) : Nat → Nat → zS → zS
  | 0, _, σ => σ
  | d + 1, s, σ => if nI s < xS σ ∧ zF σ 3 10 8 = 0 then xFl σ0 P mc mid d (s + 1) (xOf σ0 P mc mid (zI σ 9 s) s σ) else σ
/-- the heap behind the exploring, and what it answers -/
def xEnd (σ : zS) : zS := if zF σ 3 10 8 = 0 then σ else zsF (zsF (zsF σ 3 8 8 0) 3 9 8 0) 3 10 8 0
def xAns (σ : zS) : Int32 := if zF σ 3 10 8 = 0 then xS σ else -1
def xG (σ0 : zS) (p0 : Nat) (σ : zS) (pk n T : Nat) (po : Nat → Nat) : Prop := xI σ pk n T po ∧ xFr σ0 σ p0 pk
theorem xClr_I (σ : zS) {a : Nat} (h : a ≠ 15) : zI (xClr σ) a = zI σ a := funext fun j => by
  unfold xClr
  rw [zI_zsW, if_neg h, zI_zsF, zI_zsF, zI_zsF]
theorem xClr_15 (σ : zS) {j : Nat} (h : j < 1024) : zI (xClr σ) 15 j = -1 := by
  unfold xClr
  rw [zI_zsW, if_pos rfl, if_pos ⟨Nat.zero_le _, h⟩]
theorem xClr_S (σ : zS) : xS (xClr σ) = nI 0 := by
  unfold xS xClr
  rw [zF_zsW, zF_zsF, if_neg (by decide), zF_zsF, if_neg (by decide), zF_zsF, if_pos ⟨rfl, rfl, rfl⟩]
  rfl
theorem xClr_T (σ : zS) : xT (xClr σ) = nI 0 := by
  unfold xT xClr
  rw [zF_zsW, zF_zsF, if_neg (by decide), zF_zsF, if_pos ⟨rfl, rfl, rfl⟩]
  rfl
theorem xClr_hs (σ : zS) (po : Nat → Nat) : xHs (xClr σ) 0 po := ⟨fun t ht => Or.inl (xClr_15 σ ht), fun s hs => absurd hs (Nat.not_lt_zero s), fun s hs => absurd hs (Nat.not_lt_zero s), fun s s' hs => absurd hs (Nat.not_lt_zero s)⟩
theorem xClr_fr (σ : zS) (pk : Nat) : xFr σ (xClr σ) pk pk := xFr.upd rfl rfl rfl (fun c k a hc => by
  unfold xClr
  rw [zF_zsW, zF_zsF, if_neg (fun q => hc q.1), zF_zsF, if_neg (fun q => hc q.1), zF_zsF, if_neg (fun q => hc q.1)]) rfl (fun a ha _ => xClr_I σ (by omega)) rfl rfl
theorem xClr_slot (σ : zS) (k : Int32) : xProbe (xClr σ) k 1024 (xHash k) = xHash k := by
  rw [show (1024 : Nat) = 1023 + 1 from rfl, xProbe, if_pos (by rw [xClr_15 σ (xHash_lt k)]; exact m1_neg)]
theorem xBg_G {σ : zS} {pk : Nat} (h : xSh σ) (hpk : xPk σ pk) (hw : zWF σ) (hL : zL σ pk ≤ 2048) (hL1 : 1 ≤ zL σ pk) (k : Int32) : ∃ po, xG σ pk (xBg σ k) pk 1 0 po := by
  refine ⟨xPo (fun _ => 0) 0 (xHash k), ⟨h, hpk, ?_, xNew_S, by omega, ?_, Nat.zero_le _, hL1, Or.inl hL, hw⟩, (xClr_fr σ pk).tr (xNew_fr ..)⟩
  · exact (xClr_hs σ (fun _ => 0)).add (by omega) (fun s hs => absurd hs (Nat.not_lt_zero s)) (xClr_slot σ k)
  · rw [← xClr_T σ]
    unfold xBg xT xNew
    rw [zF_zsF, if_neg (by decide), zF_zsI, zF_zsI, zF_zsI, zF_zsI, zF_zsI]
theorem xG_of {σ0 σ : zS} {P p0 s pk n T : Nat} {po mc : Nat → Nat} {mid : Nat → Nat → Nat} (hP : P ≤ 3) (hm : ∀ q, q < P → mc q ≤ 6) (h : xG σ0 p0 σ pk n T po) (hs : s < n) (hT : T + 324 ≤ 512000) :
    ∃ pk' n' T' po', xG σ0 p0 (xOf σ0 P mc mid (zI σ 9 s) s σ) pk' n' T' po' ∧ xTo σ pk n T (xOf σ0 P mc mid (zI σ 9 s) s σ) pk' n' T' 324 ∧ xJ σ0 p0 s (zI σ 9 s) σ pk n T po ∧ xJ σ0 p0 s (zI σ 9 s) (xOf σ0 P mc mid (zI σ 9 s) s σ) pk' n' T' po' := by
  have hj : xJ σ0 p0 s (zI σ 9 s) σ pk n T po := ⟨h.1, h.2, rfl, hs⟩
  obtain ⟨pk1, n1, T1, po1, h1, h2⟩ := xJ_of (mid := mid) hP hm hj hT
  exact ⟨pk1, n1, T1, po1, ⟨h1.1, h1.2.1⟩, h2, hj, h1⟩
theorem xG_lt {σ0 σ : zS} {p0 pk n T : Nat} {po : Nat → Nat} (h : xG σ0 p0 σ pk n T po) {s : Nat} (hs : s < 2 ^ 31) : nI s < xS σ ↔ s < n := by
  rw [h.1.2.2.2.1]
  exact nI_ltI hs (by have := h.1.2.2.2.2.1; omega)
set_option maxRecDepth 100000 in
theorem xG_fl {σ0 : zS} {P p0 : Nat} {mc : Nat → Nat} {mid : Nat → Nat → Nat} (hP : P ≤ 3) (hm : ∀ q, q < P → mc q ≤ 6) : ∀ (d s : Nat) {σ : zS} {pk n T : Nat} {po : Nat → Nat}, s + d = 400 → xG σ0 p0 σ pk n T po → T + 324 * d ≤ 512000 → ∃ pk' n' T' po', xG σ0 p0 (xFl σ0 P mc mid d s σ) pk' n' T' po' ∧ zn σ ≤ zn (xFl σ0 P mc mid d s σ) ∧ xLen σ ≤ xLen (xFl σ0 P mc mid d s σ)
  | 0, s, σ, pk, n, T, po, hd, h, hT => ⟨pk, n, T, po, h, Nat.le_refl _, Nat.le_refl _⟩
  | d + 1, s, σ, pk, n, T, po, hd, h, hT => by
    unfold xFl
    split
    · rename_i hc
      have hs := (xG_lt h (by omega)).mp hc.1
      obtain ⟨pk1, n1, T1, po1, h1, h2, h3, h4⟩ := xG_of (mid := mid) hP hm h hs (by omega)
      obtain ⟨pk2, n2, T2, po2, g1, g2, g3⟩ := xG_fl (mid := mid) hP hm d (s + 1) (by omega) h1 (by have := h2.2.2.2.1; omega)
      exact ⟨pk2, n2, T2, po2, g1, Nat.le_trans h2.zn g2, Nat.le_trans (h2.len h3 h4) g3⟩
    · exact ⟨pk, n, T, po, h, Nat.le_refl _, Nat.le_refl _⟩
set_option maxHeartbeats 4000000 in
set_option maxRecDepth 100000 in
theorem lp_fill_states {l : Launch} {σ0 : zS} {P p0 : Nat} {k : Int32} {mc : Nat → Nat} {mid : Nat → Nat → Nat} (h0 : xSh σ0) (hp0 : p0 = 16 ∨ 30 ≤ p0) (hpro : xPro σ0 P mc mid) {C S : Nat} {Q : Option Value → zS → Prop} :
    ∀ (d s : Nat) (σ : zS) (pk n T : Nat) (po : Nat → Nat) (uc us : Nat), s + d = 400 → xG σ0 p0 σ pk n T po → T + 324 * d ≤ 512000 → uc + (zn (xFl σ0 P mc mid d s σ) - zn σ) ≤ C → us + 2 * (xLen (xFl σ0 P mc mid d s σ) - xLen σ) ≤ S → Q (some (.int (xAns (xFl σ0 P mc mid d s σ)))) (xEnd (xFl σ0 P mc mid d s σ)) →
    zAW l zmX3_fill { frames := 5, cells := C, slots := S, locals := 140 } 31 [(0, .ref 8), (1, .ref 2), (2, .int k), (3, .int (nI s))] [] σ uc us Q := by
  intro d
  induction d with
  | zero =>
    intro s σ pk n T po uc us hd hg hT hc1 hc2 hQ
    have hd : s = 400 := hd
    subst hd
    have h := hg.1.1
    rw [show xFl σ0 P mc mid 0 400 σ = σ from rfl] at hc1 hc2 hQ
    refine zw_iload_n dX3_fill_31 rfl ?_
    refine zw_aload_n dX3_fill_32 rfl ?_
    refine zw_getI dX3_fill_33 zfX3_36 rfl (xk_8 h) (by decide) ?_
    refine zw_icmpge (tgt := 65) dX3_fill_36 (by decide) (fun c36 => ?_) (fun c36 => ?_)
    · refine zw_aload_n dX3_fill_65 rfl ?_
      refine zw_getI dX3_fill_66 zfX3_47 rfl (xk_8 h) (by decide) ?_
      refine zw_ifeq (tgt := 78) dX3_fill_69 (by decide) (fun c69 => ?_) (fun c69 => ?_)
      · refine zw_aload_n dX3_fill_78 rfl ?_
        refine zw_getI dX3_fill_79 zfX3_36 rfl (xk_8 h) (by decide) ?_
        refine zw_iret dX3_fill_82 rfl rfl ?_
        have c69 : zF σ 3 10 8 = 0 := c69
        have e1 : xAns σ = xS σ := if_pos c69
        have e2 : xEnd σ = σ := if_pos c69
        rw [e1, e2] at hQ
        exact hQ
      · refine zw_aload_n dX3_fill_72 rfl ?_
        refine zw_callV (y' := zmX3_forget) dX3_fill_73 zlX3_51 zmX3_forget_ok (xk_8 h) (by decide) rfl (c_X3_forget h) rfl rfl (Nat.le_of_ble_eq_true rfl) ⟨Nat.le_of_ble_eq_true rfl, Nat.le_of_ble_eq_true rfl⟩ ⟨by show _ ≤ C; omega, by show _ ≤ S; omega⟩ ?_
        intro v73 s73 q73
        obtain ⟨rfl, z73⟩ := q73
        rw [z73]
        clear z73
        refine zw_iconst (x := -1) dX3_fill_76 rfl ?_
        refine zw_iret dX3_fill_77 rfl rfl ?_
        have e1 : xAns σ = -1 := if_neg c69
        have e2 : xEnd σ = zsF (zsF (zsF σ 3 8 8 0) 3 9 8 0) 3 10 8 0 := if_neg c69
        rw [e1, e2] at hQ
        exact hQ
    · refine zw_iload_n dX3_fill_39 rfl ?_
      refine zw_sipush (x := 400) dX3_fill_40 rfl ?_
      refine zw_icmpge (tgt := 65) dX3_fill_43 (by decide) (fun c43 => ?_) (fun c43 => ?_)
      · refine zw_aload_n dX3_fill_65 rfl ?_
        refine zw_getI dX3_fill_66 zfX3_47 rfl (xk_8 h) (by decide) ?_
        refine zw_ifeq (tgt := 78) dX3_fill_69 (by decide) (fun c69 => ?_) (fun c69 => ?_)
        · refine zw_aload_n dX3_fill_78 rfl ?_
          refine zw_getI dX3_fill_79 zfX3_36 rfl (xk_8 h) (by decide) ?_
          refine zw_iret dX3_fill_82 rfl rfl ?_
          have c69 : zF σ 3 10 8 = 0 := c69
          have e1 : xAns σ = xS σ := if_pos c69
          have e2 : xEnd σ = σ := if_pos c69
          rw [e1, e2] at hQ
          exact hQ
        · refine zw_aload_n dX3_fill_72 rfl ?_
          refine zw_callV (y' := zmX3_forget) dX3_fill_73 zlX3_51 zmX3_forget_ok (xk_8 h) (by decide) rfl (c_X3_forget h) rfl rfl (Nat.le_of_ble_eq_true rfl) ⟨Nat.le_of_ble_eq_true rfl, Nat.le_of_ble_eq_true rfl⟩ ⟨by show _ ≤ C; omega, by show _ ≤ S; omega⟩ ?_
          intro v73 s73 q73
          obtain ⟨rfl, z73⟩ := q73
          rw [z73]
          clear z73
          refine zw_iconst (x := -1) dX3_fill_76 rfl ?_
          refine zw_iret dX3_fill_77 rfl rfl ?_
          have e1 : xAns σ = -1 := if_neg c69
          have e2 : xEnd σ = zsF (zsF (zsF σ 3 8 8 0) 3 9 8 0) 3 10 8 0 := if_neg c69
          rw [e1, e2] at hQ
          exact hQ
      · exact absurd (nI_le (Nat.le_refl 400) (by decide)) c43
  | succ d ih =>
    intro s σ pk n T po uc us hd hg hT hc1 hc2 hQ
    have h := hg.1.1
    have hm16 : ∀ q, q < P → mc q ≤ 6 := fun q hq => (hpro.2.2.1 q hq).2
    refine zw_iload_n dX3_fill_31 rfl ?_
    refine zw_aload_n dX3_fill_32 rfl ?_
    refine zw_getI dX3_fill_33 zfX3_36 rfl (xk_8 h) (by decide) ?_
    refine zw_icmpge (tgt := 65) dX3_fill_36 (by decide) (fun c36 => ?_) (fun c36 => ?_)
    · have hst : xFl σ0 P mc mid (d + 1) s σ = σ := by
        rw [xFl, if_neg (fun q => absurd (show xS σ ≤ nI s from c36) (Int32.not_le.mpr q.1))]
      rw [hst] at hc1 hc2 hQ
      refine zw_aload_n dX3_fill_65 rfl ?_
      refine zw_getI dX3_fill_66 zfX3_47 rfl (xk_8 h) (by decide) ?_
      refine zw_ifeq (tgt := 78) dX3_fill_69 (by decide) (fun c69 => ?_) (fun c69 => ?_)
      · refine zw_aload_n dX3_fill_78 rfl ?_
        refine zw_getI dX3_fill_79 zfX3_36 rfl (xk_8 h) (by decide) ?_
        refine zw_iret dX3_fill_82 rfl rfl ?_
        have c69 : zF σ 3 10 8 = 0 := c69
        have e1 : xAns σ = xS σ := if_pos c69
        have e2 : xEnd σ = σ := if_pos c69
        rw [e1, e2] at hQ
        exact hQ
      · refine zw_aload_n dX3_fill_72 rfl ?_
        refine zw_callV (y' := zmX3_forget) dX3_fill_73 zlX3_51 zmX3_forget_ok (xk_8 h) (by decide) rfl (c_X3_forget h) rfl rfl (Nat.le_of_ble_eq_true rfl) ⟨Nat.le_of_ble_eq_true rfl, Nat.le_of_ble_eq_true rfl⟩ ⟨by show _ ≤ C; omega, by show _ ≤ S; omega⟩ ?_
        intro v73 s73 q73
        obtain ⟨rfl, z73⟩ := q73
        rw [z73]
        clear z73
        refine zw_iconst (x := -1) dX3_fill_76 rfl ?_
        refine zw_iret dX3_fill_77 rfl rfl ?_
        have e1 : xAns σ = -1 := if_neg c69
        have e2 : xEnd σ = zsF (zsF (zsF σ 3 8 8 0) 3 9 8 0) 3 10 8 0 := if_neg c69
        rw [e1, e2] at hQ
        exact hQ
    · refine zw_iload_n dX3_fill_39 rfl ?_
      refine zw_sipush (x := 400) dX3_fill_40 rfl ?_
      refine zw_icmpge (tgt := 65) dX3_fill_43 (by decide) (fun c43 => ?_) (fun c43 => ?_)
      · exact absurd c43 (show ¬ (400 : Int32) ≤ nI s from nI_ge (show s < 400 by omega) (by decide))
      · refine zw_aload_n dX3_fill_46 rfl ?_
        refine zw_getI dX3_fill_47 zfX3_47 rfl (xk_8 h) (by decide) ?_
        refine zw_ifne (tgt := 65) dX3_fill_50 (by decide) (fun c50 => ?_) (fun c50 => ?_)
        · have hst : xFl σ0 P mc mid (d + 1) s σ = σ := by
            rw [xFl, if_neg (fun q => c50 q.2)]
          rw [hst] at hc1 hc2 hQ
          refine zw_aload_n dX3_fill_65 rfl ?_
          refine zw_getI dX3_fill_66 zfX3_47 rfl (xk_8 h) (by decide) ?_
          refine zw_ifeq (tgt := 78) dX3_fill_69 (by decide) (fun c69 => ?_) (fun c69 => ?_)
          · refine zw_aload_n dX3_fill_78 rfl ?_
            refine zw_getI dX3_fill_79 zfX3_36 rfl (xk_8 h) (by decide) ?_
            refine zw_iret dX3_fill_82 rfl rfl ?_
            have c69 : zF σ 3 10 8 = 0 := c69
            have e1 : xAns σ = xS σ := if_pos c69
            have e2 : xEnd σ = σ := if_pos c69
            rw [e1, e2] at hQ
            exact hQ
          · refine zw_aload_n dX3_fill_72 rfl ?_
            refine zw_callV (y' := zmX3_forget) dX3_fill_73 zlX3_51 zmX3_forget_ok (xk_8 h) (by decide) rfl (c_X3_forget h) rfl rfl (Nat.le_of_ble_eq_true rfl) ⟨Nat.le_of_ble_eq_true rfl, Nat.le_of_ble_eq_true rfl⟩ ⟨by show _ ≤ C; omega, by show _ ≤ S; omega⟩ ?_
            intro v73 s73 q73
            obtain ⟨rfl, z73⟩ := q73
            rw [z73]
            clear z73
            refine zw_iconst (x := -1) dX3_fill_76 rfl ?_
            refine zw_iret dX3_fill_77 rfl rfl ?_
            have e1 : xAns σ = -1 := if_neg c69
            have e2 : xEnd σ = zsF (zsF (zsF σ 3 8 8 0) 3 9 8 0) 3 10 8 0 := if_neg c69
            rw [e1, e2] at hQ
            exact hQ
        · have c50 : zF σ 3 10 8 = 0 := c50
          have hsl : nI s < xS σ := Int32.not_le.mp c36
          have hst : xFl σ0 P mc mid (d + 1) s σ = xFl σ0 P mc mid d (s + 1) (xOf σ0 P mc mid (zI σ 9 s) s σ) := by
            rw [xFl, if_pos ⟨hsl, c50⟩]
          rw [hst] at hc1 hc2 hQ
          obtain ⟨pk1, n1, T1, po1, hg1, hto, hj, hj1⟩ := xG_of (mid := mid) hpro.2.1 hm16 hg ((xG_lt hg (by omega)).mp hsl) (by omega)
          obtain ⟨pk2, n2, T2, po2, hg2, hz2, hl2⟩ := xG_fl (mid := mid) hpro.2.1 hm16 d (s + 1) (by omega) hg1 (by have := hto.2.2.2.1; omega)
          have hz1 := hto.zn
          have hl1 := hto.len hj hj1
          refine zw_aload_n dX3_fill_53 rfl ?_
          refine zw_iload_n dX3_fill_54 rfl ?_
          refine zw_aload_n dX3_fill_55 rfl ?_
          refine zw_callV (y' := zmX3_addStepsOf) dX3_fill_56 zlX3_74 zmX3_addStepsOf_ok (xk_8 h) (by decide) rfl (c_X3_addStepsOf h0 hp0 hpro (by omega) hj (by omega)) rfl rfl (Nat.le_of_ble_eq_true rfl) ⟨Nat.le_of_ble_eq_true rfl, Nat.le_of_ble_eq_true rfl⟩ ⟨by show _ ≤ C; omega, by show _ ≤ S; omega⟩ ?_
          intro v56 s56 q56
          obtain ⟨rfl, z56⟩ := q56
          rw [z56]
          clear z56
          refine zw_iinc dX3_fill_59 rfl (by decide) rfl ?_
          refine zw_goto (tgt := 31) dX3_fill_62 (by decide) ?_
          refine zw_loc (lc' := [(0, .ref 8), (1, .ref 2), (2, .int k), (3, .int (nI s + 1))]) (zsub_cons rfl (zsub_cons rfl (zsub_cons rfl (zsub_cons rfl zsub_nil)))) ?_
          rw [nI_1]
          exact ih (s + 1) _ pk1 n1 T1 po1 _ _ (by omega) hg1 (by have := hto.2.2.2.1; omega) (by omega) (by omega) hQ
set_option maxHeartbeats 4000000 in
set_option maxRecDepth 100000 in
theorem c_X3_fill {l : Launch} {σ : zS} {P V pk : Nat} {mc : Nat → Nat} {mid : Nat → Nat → Nat} (h : xSh σ) (hpk : xPk σ pk) (hL : zL σ pk ≤ 2048) (hL1 : 1 ≤ zL σ pk) (hpro : xPro σ P mc mid) (hV : xV σ = nI V) (hV4 : V ≤ 4) : zAM l zmX3_fill 5 140 (zn (xFl σ P mc mid 400 0 (xBg σ (xKb σ V 0 0))) - zn σ) (2 * (xLen (xFl σ P mc mid 400 0 (xBg σ (xKb σ V 0 0))) - xLen σ)) [.ref 8, .ref 2] σ (fun v σ' => v = some (.int (xAns (xFl σ P mc mid 400 0 (xBg σ (xKb σ V 0 0))))) ∧ σ' = xEnd (xFl σ P mc mid 400 0 (xBg σ (xKb σ V 0 0)))) := by
  refine zAM.of (by decide +kernel) (Nat.le_of_ble_eq_true rfl) ?_
  refine zw_wf (fun hw => ?_)
  have hm16 : ∀ q, q < P → mc q ≤ 6 := fun q hq => (hpro.2.2.1 q hq).2
  obtain ⟨po, hg⟩ := xBg_G h hpk hw hL hL1 (xKb σ V 0 0)
  refine zw_aload_n dX3_fill_0 rfl ?_
  refine zw_callV (y' := zmX3_forget) dX3_fill_1 zlX3_51 zmX3_forget_ok (xk_8 h) (by decide) rfl (c_X3_forget h) rfl rfl (Nat.le_of_ble_eq_true rfl) ⟨Nat.le_of_ble_eq_true rfl, Nat.le_of_ble_eq_true rfl⟩ ⟨Nat.le_trans (Nat.le_of_ble_eq_true rfl : _ ≤ 0) (Nat.zero_le _), Nat.le_trans (Nat.le_of_ble_eq_true rfl : _ ≤ 0) (Nat.zero_le _)⟩ ?_
  intro v1 s1 q1
  obtain ⟨rfl, z1⟩ := q1
  rw [z1]
  clear z1
  refine zw_aload_n dX3_fill_4 rfl ?_
  refine zw_getR dX3_fill_5 zfX3_30 rfl (xk_8 h) (by decide) (xg_3_6 h) ?_
  refine zw_iconst (x := -1) dX3_fill_8 rfl ?_
  refine zw_callS (y' := zmJ7_fill_53178) (F := 0) (Lc := 0) (mc := 0) (ms := 0) dX3_fill_9 zlX3_54 zmJ7_fill_53178_ok (c_J7_fill_53178 (σ := zsF (zsF (zsF σ 3 8 8 0) 3 9 8 0) 3 10 8 0) (a := 15) (L := 1024) (xk_15 h) (by decide) (xl_15 h) (by decide) (-1)) rfl rfl (Nat.le_of_ble_eq_true rfl) ⟨Nat.le_of_ble_eq_true rfl, Nat.le_of_ble_eq_true rfl⟩ ⟨Nat.le_trans (Nat.le_of_ble_eq_true rfl : _ ≤ 0) (Nat.zero_le _), Nat.le_trans (Nat.le_of_ble_eq_true rfl : _ ≤ 0) (Nat.zero_le _)⟩ ?_
  intro v9 s9 q9
  obtain ⟨rfl, z9⟩ := q9
  rw [z9]
  clear z9
  show zAW _ _ _ _ _ _ (xClr σ) _ _ _
  refine zw_aload_n dX3_fill_12 rfl ?_
  refine zw_callV (y' := zmX2_keyAtBeginning) dX3_fill_13 zlX3_60 zmX2_keyAtBeginning_ok (xk_2 h) (by decide) rfl (c_X2_keyAtBeginning (σ := xClr σ) (V := V) h ((show xV (xClr σ) = xV σ from (xClr_fr σ 0).2.2.2.2.1 2 6 2 (by decide)).trans hV) hV4) rfl rfl (Nat.le_of_ble_eq_true rfl) ⟨Nat.le_of_ble_eq_true rfl, Nat.le_of_ble_eq_true rfl⟩ ⟨Nat.le_trans (Nat.le_of_ble_eq_true rfl : _ ≤ 0) (Nat.zero_le _), Nat.le_trans (Nat.le_of_ble_eq_true rfl : _ ≤ 0) (Nat.zero_le _)⟩ ?_
  intro v13 s13 q13
  obtain ⟨rfl, z13⟩ := q13
  rw [z13]
  clear z13
  rw [xKb_congr (σ := σ) (xClr_I σ (by decide))]
  refine zw_istore_n dX3_fill_16 (by decide) rfl ?_
  refine zw_aload_n dX3_fill_17 rfl ?_
  refine zw_iload_n dX3_fill_18 rfl ?_
  refine zw_aload_n dX3_fill_19 rfl ?_
  refine zw_iload_n dX3_fill_20 rfl ?_
  refine zw_callV (y' := zmX3_slotOf) dX3_fill_21 zlX3_66 zmX3_slotOf_ok (xk_8 h) (by decide) rfl (c_X3_slotOf (σ := xClr σ) h ((xClr_hs σ (fun _ => 0)).sl (by omega)) _) rfl rfl (Nat.le_of_ble_eq_true rfl) ⟨Nat.le_of_ble_eq_true rfl, Nat.le_of_ble_eq_true rfl⟩ ⟨Nat.le_trans (Nat.le_of_ble_eq_true rfl : _ ≤ 0) (Nat.zero_le _), Nat.le_trans (Nat.le_of_ble_eq_true rfl : _ ≤ 0) (Nat.zero_le _)⟩ ?_
  intro v21 s21 q21
  obtain ⟨rfl, z21⟩ := q21
  rw [z21]
  clear z21
  rw [xClr_slot]
  refine zw_iconst (x := 0) dX3_fill_24 rfl ?_
  refine zw_iconst (x := 0) dX3_fill_25 rfl ?_
  refine zw_callV (y' := zmX3_newState) dX3_fill_26 zlX3_70 zmX3_newState_ok (xk_8 h) (by decide) rfl (c_X3_newState (σ := xClr σ) (f := 0) (n := 0) (p := 0) h (xClr_S σ) (by decide) (xHash_lt _) (by decide) _ _) rfl rfl (Nat.le_of_ble_eq_true rfl) ⟨Nat.le_of_ble_eq_true rfl, Nat.le_of_ble_eq_true rfl⟩ ⟨Nat.le_trans (Nat.le_of_ble_eq_true rfl : _ ≤ 0) (Nat.zero_le _), Nat.le_trans (Nat.le_of_ble_eq_true rfl : _ ≤ 0) (Nat.zero_le _)⟩ ?_
  intro v26 s26 q26
  obtain ⟨rfl, z26⟩ := q26
  rw [z26]
  clear z26
  show zAW _ _ _ _ _ _ (xBg σ (xKb σ V 0 0)) _ _ _
  refine zw_iconst (x := 0) dX3_fill_29 rfl ?_
  refine zw_istore_n dX3_fill_30 (by decide) rfl ?_
  refine zw_loc (lc' := [(0, .ref 8), (1, .ref 2), (2, .int (xKb σ V 0 0)), (3, .int (nI 0))]) (zsub_cons rfl (zsub_cons rfl (zsub_cons rfl (zsub_cons rfl zsub_nil)))) ?_
  exact lp_fill_states h (hpk.2.2) hpro 400 0 (xBg σ (xKb σ V 0 0)) pk 1 0 po 0 0 (Nat.zero_add _) hg (by omega) (Nat.le_of_eq (Nat.zero_add _)) (Nat.le_of_eq (Nat.zero_add _)) ⟨rfl, rfl⟩
set_option maxHeartbeats 4000000 in
set_option maxRecDepth 100000 in
theorem c_X4_forget {l : Launch} {σ : zS} (h : xSh σ) : zAM l zmX4_forget 0 0 0 0 [.ref 21] σ (fun v σ' => v = none ∧ σ' = zsF σ 4 11 21 (-1)) := by
  refine zAM.of (by decide +kernel) (Nat.le_of_ble_eq_true rfl) ?_
  refine zw_aload_n dX4_forget_0 rfl ?_
  refine zw_iconst (x := -1) dX4_forget_1 rfl ?_
  refine zw_putI dX4_forget_2 zfX4_37 rfl rfl ⟨rfl, rfl⟩ (xk_21 h) (by decide) ?_
  refine zw_vret dX4_forget_5 rfl ?_
  exact ⟨rfl, rfl⟩
end
section
/-! explore, facts -/
def xIsK (kn f : Int32) : Bool := decide (¬ xSr kn f &&& 1 = 0)
/-- a fact at a key, those before it being known -/
def xTr (σ : zS) (f : Nat) (k kn : Int32) : Bool :=
  if zI σ 18 f = 0 then decide (xLoc k (zI σ 19 f) = zI σ 20 f) else if zI σ 18 f = 1 then decide (xVal k (zI σ 19 f) = zI σ 20 f) else if zI σ 18 f = 2 then decide (xVal k (zI σ 19 f) ≤ zI σ 20 f)
  else if zI σ 18 f = 3 then !xIsK kn (zI σ 19 f) else if zI σ 18 f = 4 then xIsK kn (zI σ 19 f) && xIsK kn (zI σ 20 f) else xIsK kn (zI σ 19 f) || xIsK kn (zI σ 20 f)
/-- what is known of the facts from f on, d of them -/
def xKn (σ : zS) (k : Int32) : Nat → Nat → Int32 → Int32
  | 0, _, kn => kn
  | d + 1, f, kn => xKn σ k d (f + 1) (if xTr σ f k kn = true then kn ||| (1 <<< (nI f &&& 31)) else kn)
/-- whether the fact holds at a key -/
def xHold (σ : zS) (f : Nat) (k : Int32) : Bool := xIsK (xKn σ k (f + 1) 0 0) (nI f)
def xFz (σ : zS) : Int32 := zF σ 0 3 17
theorem xPro_41 {σ : zS} {P : Nat} {mc : Nat → Nat} {mid : Nat → Nat → Nat} (h : xPro σ P mc mid) (x : Int32) : xPro (zsF σ 4 11 21 x) P mc mid := by
  obtain ⟨h1, h2, h3, h4⟩ := h
  refine ⟨?_, h2, h3, fun p m hp hm => ?_⟩
  · rw [← h1]
    unfold xP
    rw [zF_zsF, if_neg (by decide)]
  · rw [zF_zsF, if_neg (fun q => absurd q.1 (by decide)), zF_zsF, if_neg (fun q => absurd q.1 (by decide))]
    exact h4 p m hp hm
theorem xV_41 (σ : zS) (x : Int32) : xV (zsF σ 4 11 21 x) = xV σ := by
  unfold xV
  rw [zF_zsF, if_neg (by decide)]
theorem znz (b : Bool) : narrow .boolean (.int (zb b)) = .int (zb b) := by cases b <;> rfl
theorem zsplit04 (x : Int32) : x = 0 ∨ x = 1 ∨ x = 2 ∨ x = 3 ∨ x = 4 ∨ (x.toInt < 0 ∨ 4 < x.toInt) := by
  rcases zsplit3 x with h | h | h | h | h
  · exact Or.inl h
  · exact Or.inr (Or.inl h)
  · exact Or.inr (Or.inr (Or.inl h))
  · exact Or.inr (Or.inr (Or.inr (Or.inl h)))
  · by_cases q : x.toInt = 4
    · exact Or.inr (Or.inr (Or.inr (Or.inr (Or.inl (Int32.toInt_inj.mp (q.trans zt_4.symm))))))
    · exact Or.inr (Or.inr (Or.inr (Or.inr (Or.inr (by omega)))))
set_option maxHeartbeats 4000000 in
set_option maxRecDepth 100000 in
theorem c_X5_explore {l : Launch} {σ : zS} {P V pk : Nat} {mc : Nat → Nat} {mid : Nat → Nat → Nat} (h : xSh σ) (hpk : xPk σ pk) (hL : zL σ pk ≤ 2048) (hL1 : 1 ≤ zL σ pk) (hpro : xPro σ P mc mid) (hP1 : 1 ≤ P) (hV : xV σ = nI V) (hV4 : V ≤ 4) : zAM l zmX5_explore 6 163 (zn (xFl (zsF σ 4 11 21 (-1)) P mc mid 400 0 (xBg (zsF σ 4 11 21 (-1)) (xKb (zsF σ 4 11 21 (-1)) V 0 0))) - zn σ) (2 * (xLen (xFl (zsF σ 4 11 21 (-1)) P mc mid 400 0 (xBg (zsF σ 4 11 21 (-1)) (xKb (zsF σ 4 11 21 (-1)) V 0 0))) - xLen σ)) [.ref 1] σ (fun v σ' => v = some (.int (xAns (xFl (zsF σ 4 11 21 (-1)) P mc mid 400 0 (xBg (zsF σ 4 11 21 (-1)) (xKb (zsF σ 4 11 21 (-1)) V 0 0))))) ∧ σ' = xEnd (xFl (zsF σ 4 11 21 (-1)) P mc mid 400 0 (xBg (zsF σ 4 11 21 (-1)) (xKb (zsF σ 4 11 21 (-1)) V 0 0)))) := by
  refine zAM.of (by decide +kernel) (Nat.le_of_ble_eq_true rfl) ?_
  refine zw_aload_n dX5_explore_0 rfl ?_
  refine zw_getR dX5_explore_1 zfX5_12 rfl (xk_1 h) (by decide) (xg_5_0 h) ?_
  refine zw_getI dX5_explore_4 zfX5_48 rfl (xk_2 h) (by decide) ?_
  
  refine zw_ifne (tgt := 20) dX5_explore_7 (by decide) (fun c7 => ?_) (fun c7 => ?_)
  · refine zw_aload_n dX5_explore_20 rfl ?_
    refine zw_getR dX5_explore_21 zfX5_33 rfl (xk_1 h) (by decide) (xg_5_3 h) ?_
    refine zw_callV (y' := zmX4_forget) dX5_explore_24 zlX5_141 zmX4_forget_ok (xk_21 h) (by decide) rfl (c_X4_forget h) rfl rfl (Nat.le_of_ble_eq_true rfl) ⟨Nat.le_of_ble_eq_true rfl, Nat.le_of_ble_eq_true rfl⟩ ⟨Nat.le_trans (Nat.le_of_ble_eq_true rfl : _ ≤ 0) (Nat.zero_le _), Nat.le_trans (Nat.le_of_ble_eq_true rfl : _ ≤ 0) (Nat.zero_le _)⟩ ?_
    intro v24 s24 q24
    obtain ⟨rfl, z24⟩ := q24
    rw [z24]
    clear z24
    refine zw_aload_n dX5_explore_27 rfl ?_
    refine zw_getR dX5_explore_28 zfX5_19 rfl (xk_1 h) (by decide) (xg_5_1 h) ?_
    refine zw_aload_n dX5_explore_31 rfl ?_
    refine zw_getR dX5_explore_32 zfX5_12 rfl (xk_1 h) (by decide) (xg_5_0 h) ?_
    refine zw_callV (y' := zmX3_fill) dX5_explore_35 zlX5_142 zmX3_fill_ok (xk_8 h) (by decide) rfl (c_X3_fill (σ := zsF σ 4 11 21 (-1)) (P := P) (V := V) (pk := pk) (mc := mc) (mid := mid) h hpk hL hL1 (xPro_41 hpro (-1)) ((xV_41 σ (-1)).trans hV) hV4) rfl rfl (Nat.le_of_ble_eq_true rfl) ⟨Nat.le_of_ble_eq_true rfl, Nat.le_of_ble_eq_true rfl⟩ ⟨Nat.le_of_eq (Nat.zero_add _), Nat.le_of_eq (Nat.zero_add _)⟩ ?_
    intro v35 s35 q35
    obtain ⟨rfl, z35⟩ := q35
    rw [z35]
    clear z35
    refine zw_iret dX5_explore_38 rfl rfl ?_
    exact ⟨rfl, rfl⟩
  · exfalso
    rw [show zF σ 2 5 2 = nI P from hpro.1] at c7
    exact nI_ne0 hP1 (by have := hpro.2.1; omega) c7
set_option maxHeartbeats 4000000 in
set_option maxRecDepth 100000 in
theorem c_X0_hasFact {l : Launch} {σ : zS} (h : xSh σ) (p : Int32) : zAM l zmX0_hasFact 0 0 0 0 [.ref 17, .int p] σ (fun v σ' => v = some (.int (zb (decide (0 ≤ p ∧ p < xFz σ)))) ∧ σ' = σ) := by
  refine zAM.of (by decide +kernel) (Nat.le_of_ble_eq_true rfl) ?_
  refine zw_iload_n dX0_hasFact_0 rfl ?_
  refine zw_iflt (tgt := 16) dX0_hasFact_1 (by decide) (fun c1 => ?_) (fun c1 => ?_)
  · refine zw_iconst (x := 0) dX0_hasFact_16 rfl ?_
    refine zw_iret dX0_hasFact_17 rfl rfl ?_
    unfold xFz
    refine ⟨?_, rfl⟩
    first | rw [zb_t (by simp only [Int32.lt_iff_toInt_lt, Int32.le_iff_toInt_le, vp_in_iff, zt_0, zt_1, zt_2, zt_3, zt_4, zt_5, zt_6, zt_7, zt_8, zt_9, zt_10, zt_11, zt_12, zt_13, zt_14, zt_15, zt_16, zt_17, zt_18, zt_19, zt_20, zt_21, zt_22, zt_23, zt_24, zt_25, zt_26, zt_27, zt_28, zt_29, zt_30, zt_31, zt_63, zt_255, zt_400, zt_401, zt_397, zt_511, zt_512, zt_1024, zt_1023, zt_2048, zt_m1, zt_m2, zt_m9] at *; omega)] | rw [zb_f (by simp only [Int32.lt_iff_toInt_lt, Int32.le_iff_toInt_le, vp_in_iff, zt_0, zt_1, zt_2, zt_3, zt_4, zt_5, zt_6, zt_7, zt_8, zt_9, zt_10, zt_11, zt_12, zt_13, zt_14, zt_15, zt_16, zt_17, zt_18, zt_19, zt_20, zt_21, zt_22, zt_23, zt_24, zt_25, zt_26, zt_27, zt_28, zt_29, zt_30, zt_31, zt_63, zt_255, zt_400, zt_401, zt_397, zt_511, zt_512, zt_1024, zt_1023, zt_2048, zt_m1, zt_m2, zt_m9] at *; omega)]
  · refine zw_iload_n dX0_hasFact_4 rfl ?_
    refine zw_aload_n dX0_hasFact_5 rfl ?_
    refine zw_getI dX0_hasFact_6 zfX0_21 rfl (xk_17 h) (by decide) ?_
    refine zw_icmpge (tgt := 16) dX0_hasFact_9 (by decide) (fun c9 => ?_) (fun c9 => ?_)
    · refine zw_iconst (x := 0) dX0_hasFact_16 rfl ?_
      refine zw_iret dX0_hasFact_17 rfl rfl ?_
      unfold xFz
      refine ⟨?_, rfl⟩
      first | rw [zb_t (by simp only [Int32.lt_iff_toInt_lt, Int32.le_iff_toInt_le, vp_in_iff, zt_0, zt_1, zt_2, zt_3, zt_4, zt_5, zt_6, zt_7, zt_8, zt_9, zt_10, zt_11, zt_12, zt_13, zt_14, zt_15, zt_16, zt_17, zt_18, zt_19, zt_20, zt_21, zt_22, zt_23, zt_24, zt_25, zt_26, zt_27, zt_28, zt_29, zt_30, zt_31, zt_63, zt_255, zt_400, zt_401, zt_397, zt_511, zt_512, zt_1024, zt_1023, zt_2048, zt_m1, zt_m2, zt_m9] at *; omega)] | rw [zb_f (by simp only [Int32.lt_iff_toInt_lt, Int32.le_iff_toInt_le, vp_in_iff, zt_0, zt_1, zt_2, zt_3, zt_4, zt_5, zt_6, zt_7, zt_8, zt_9, zt_10, zt_11, zt_12, zt_13, zt_14, zt_15, zt_16, zt_17, zt_18, zt_19, zt_20, zt_21, zt_22, zt_23, zt_24, zt_25, zt_26, zt_27, zt_28, zt_29, zt_30, zt_31, zt_63, zt_255, zt_400, zt_401, zt_397, zt_511, zt_512, zt_1024, zt_1023, zt_2048, zt_m1, zt_m2, zt_m9] at *; omega)]
    · refine zw_iconst (x := 1) dX0_hasFact_12 rfl ?_
      refine zw_goto (tgt := 17) dX0_hasFact_13 (by decide) ?_
      refine zw_iret dX0_hasFact_17 rfl rfl ?_
      unfold xFz
      refine ⟨?_, rfl⟩
      first | rw [zb_t (by simp only [Int32.lt_iff_toInt_lt, Int32.le_iff_toInt_le, vp_in_iff, zt_0, zt_1, zt_2, zt_3, zt_4, zt_5, zt_6, zt_7, zt_8, zt_9, zt_10, zt_11, zt_12, zt_13, zt_14, zt_15, zt_16, zt_17, zt_18, zt_19, zt_20, zt_21, zt_22, zt_23, zt_24, zt_25, zt_26, zt_27, zt_28, zt_29, zt_30, zt_31, zt_63, zt_255, zt_400, zt_401, zt_397, zt_511, zt_512, zt_1024, zt_1023, zt_2048, zt_m1, zt_m2, zt_m9] at *; omega)] | rw [zb_f (by simp only [Int32.lt_iff_toInt_lt, Int32.le_iff_toInt_le, vp_in_iff, zt_0, zt_1, zt_2, zt_3, zt_4, zt_5, zt_6, zt_7, zt_8, zt_9, zt_10, zt_11, zt_12, zt_13, zt_14, zt_15, zt_16, zt_17, zt_18, zt_19, zt_20, zt_21, zt_22, zt_23, zt_24, zt_25, zt_26, zt_27, zt_28, zt_29, zt_30, zt_31, zt_63, zt_255, zt_400, zt_401, zt_397, zt_511, zt_512, zt_1024, zt_1023, zt_2048, zt_m1, zt_m2, zt_m9] at *; omega)]
set_option maxHeartbeats 4000000 in
set_option maxRecDepth 100000 in
theorem c_X0_newFact {l : Launch} {σ : zS} (h : xSh σ) {n : Nat} (hn : xFz σ = nI n) (hn12 : n < 12) (s a b : Int32) : zAM l zmX0_newFact 0 0 0 0 [.ref 17, .int s, .int a, .int b] σ (fun v σ' => v = some (.int (nI n)) ∧ σ' = zsF (zsI (zsI (zsI σ 18 n s) 19 n a) 20 n b) 0 3 17 (nI (n + 1))) := by
  refine zAM.of (by decide +kernel) (Nat.le_of_ble_eq_true rfl) ?_
  refine zw_aload_n dX0_newFact_0 rfl ?_
  refine zw_getR dX0_newFact_1 zfX0_9 rfl (xk_17 h) (by decide) (xg_0_0 h) ?_
  refine zw_aload_n dX0_newFact_4 rfl ?_
  refine zw_getI dX0_newFact_5 zfX0_21 rfl (xk_17 h) (by decide) ?_
  refine zw_iload_n dX0_newFact_8 rfl ?_
  refine zw_iastore dX0_newFact_9 (xk_18 h) (by decide) (zin_of (xl_18 h) (by rw [show zF σ 0 3 17 = nI n from hn]; exact vp_in_nI (by omega) (by omega))) ?_
  refine zw_aload_n dX0_newFact_10 rfl ?_
  refine zw_getR dX0_newFact_11 zfX0_15 rfl (xk_17 h) (by decide) (xg_0_1 h) ?_
  refine zw_aload_n dX0_newFact_14 rfl ?_
  refine zw_getI dX0_newFact_15 zfX0_21 rfl (xk_17 h) (by decide) ?_
  refine zw_iload_n dX0_newFact_18 rfl ?_
  refine zw_iastore dX0_newFact_19 (xk_19 h) (by decide) (zin_of (xl_19 h) (by rw [zF_zsI, show zF σ 0 3 17 = nI n from hn]; exact vp_in_nI (by omega) (by omega))) ?_
  refine zw_aload_n dX0_newFact_20 rfl ?_
  refine zw_getR dX0_newFact_21 zfX0_18 rfl (xk_17 h) (by decide) (xg_0_2 h) ?_
  refine zw_aload_n dX0_newFact_24 rfl ?_
  refine zw_getI dX0_newFact_25 zfX0_21 rfl (xk_17 h) (by decide) ?_
  refine zw_iload_n dX0_newFact_28 rfl ?_
  refine zw_iastore dX0_newFact_29 (xk_20 h) (by decide) (zin_of (xl_20 h) (by rw [zF_zsI, zF_zsI, show zF σ 0 3 17 = nI n from hn]; exact vp_in_nI (by omega) (by omega))) ?_
  refine zw_aload_n dX0_newFact_30 rfl ?_
  refine zw_dup dX0_newFact_31 rfl ?_
  refine zw_getI dX0_newFact_32 zfX0_21 rfl (xk_17 h) (by decide) ?_
  refine zw_iconst (x := 1) dX0_newFact_35 rfl ?_
  refine zw_iadd dX0_newFact_36 ?_
  refine zw_putI dX0_newFact_37 zfX0_21 rfl rfl ⟨rfl, rfl⟩ (xk_17 h) (by decide) ?_
  refine zw_aload_n dX0_newFact_40 rfl ?_
  refine zw_getI dX0_newFact_41 zfX0_21 rfl (xk_17 h) (by decide) ?_
  refine zw_iconst (x := 1) dX0_newFact_44 rfl ?_
  refine zw_isub dX0_newFact_45 ?_
  refine zw_iret dX0_newFact_46 rfl rfl ?_
  refine ⟨?_, ?_⟩
  · rw [zF_zsF, if_pos ⟨rfl, rfl, rfl⟩, zF_zsI, zF_zsI, zF_zsI, show zF σ 0 3 17 = nI n from hn, i32_sub1]
  · simp only [zF_zsI, show zF σ 0 3 17 = nI n from hn, nI_clamp (show n < 2 ^ 31 by omega), nI_1]
set_option maxHeartbeats 4000000 in
set_option maxRecDepth 100000 in
theorem c_X0_isKnown {l : Launch} {σ : zS} (k f : Int32) : zAM l zmX0_isKnown 0 0 0 0 [.int k, .int f] σ (fun v σ' => v = some (.int (zb (xIsK k f))) ∧ σ' = σ) := by
  refine zAM.of (by decide +kernel) (Nat.le_of_ble_eq_true rfl) ?_
  refine zw_iload_n dX0_isKnown_0 rfl ?_
  refine zw_iload_n dX0_isKnown_1 rfl ?_
  refine zw_iushr dX0_isKnown_2 ?_
  refine zw_iconst (x := 1) dX0_isKnown_3 rfl ?_
  refine zw_iand dX0_isKnown_4 ?_
  refine zw_ifeq (tgt := 12) dX0_isKnown_5 (by decide) (fun c5 => ?_) (fun c5 => ?_)
  · refine zw_iconst (x := 0) dX0_isKnown_12 rfl ?_
    refine zw_iret dX0_isKnown_13 rfl rfl ?_
    refine ⟨?_, rfl⟩
    unfold xIsK xSr
    simp_all [zb]
  · refine zw_iconst (x := 1) dX0_isKnown_8 rfl ?_
    refine zw_goto (tgt := 13) dX0_isKnown_9 (by decide) ?_
    refine zw_iret dX0_isKnown_13 rfl rfl ?_
    refine ⟨?_, rfl⟩
    unfold xIsK xSr
    simp_all [zb]
set_option maxHeartbeats 4000000 in
set_option maxRecDepth 100000 in
theorem c_X0_isTrue {l : Launch} {σ : zS} (h : xSh σ) {f : Nat} (hf : f < 12) (k kn : Int32) : zAM l zmX0_isTrue 1 21 0 0 [.ref 17, .int (nI f), .int k, .int kn] σ (fun v σ' => v = some (.int (zb (xTr σ f k kn))) ∧ σ' = σ) := by
  refine zAM.of (by decide +kernel) (Nat.le_of_ble_eq_true rfl) ?_
  refine zw_aload_n dX0_isTrue_0 rfl ?_
  refine zw_getR dX0_isTrue_1 zfX0_15 rfl (xk_17 h) (by decide) (xg_0_1 h) ?_
  refine zw_iload_n dX0_isTrue_4 rfl ?_
  refine zw_iaload dX0_isTrue_5 (xk_19 h) (zin_of (xl_19 h) (vp_in_nI (by omega) (by omega))) ?_
  rw [nI_clamp (n := f) (by omega)]
  refine zw_istore dX0_isTrue_6 (by decide) rfl ?_
  refine zw_aload_n dX0_isTrue_8 rfl ?_
  refine zw_getR dX0_isTrue_9 zfX0_18 rfl (xk_17 h) (by decide) (xg_0_2 h) ?_
  refine zw_iload_n dX0_isTrue_12 rfl ?_
  refine zw_iaload dX0_isTrue_13 (xk_20 h) (zin_of (xl_20 h) (vp_in_nI (by omega) (by omega))) ?_
  rw [nI_clamp (n := f) (by omega)]
  refine zw_istore dX0_isTrue_14 (by decide) rfl ?_
  refine zw_aload_n dX0_isTrue_16 rfl ?_
  refine zw_getR dX0_isTrue_17 zfX0_9 rfl (xk_17 h) (by decide) (xg_0_0 h) ?_
  refine zw_iload_n dX0_isTrue_20 rfl ?_
  refine zw_iaload dX0_isTrue_21 (xk_18 h) (zin_of (xl_18 h) (vp_in_nI (by omega) (by omega))) ?_
  rw [nI_clamp (n := f) (by omega)]
  generalize hgs : zI σ 18 f = gs
  rcases zsplit04 gs with rfl | rfl | rfl | rfl | rfl | hw
  · refine zw_tableIn (off := 34) (tgt := 56) dX0_isTrue_22 (by decide) (by decide) (by decide) (by decide) ?_
    refine zw_iload_n dX0_isTrue_56 rfl ?_
    refine zw_iload dX0_isTrue_57 rfl ?_
    refine zw_callS (y' := zmX5_locationIn) dX0_isTrue_59 zlX0_33 zmX5_locationIn_ok (c_X5_locationIn _ _) rfl rfl (Nat.le_of_ble_eq_true rfl) ⟨Nat.le_of_ble_eq_true rfl, Nat.le_of_ble_eq_true rfl⟩ ⟨Nat.le_of_ble_eq_true rfl, Nat.le_of_ble_eq_true rfl⟩ ?_
    intro v59 s59 q59
    obtain ⟨rfl, z59⟩ := q59
    rw [z59]
    clear z59
    refine zw_iload dX0_isTrue_62 rfl ?_
    refine zw_icmpne (tgt := 71) dX0_isTrue_64 (by decide) (fun c64 => ?_) (fun c64 => ?_)
    · refine zw_iconst (x := 0) dX0_isTrue_71 rfl ?_
      refine zw_iret dX0_isTrue_72 rfl rfl ?_
      refine ⟨?_, rfl⟩
      (try have n0 : gs ≠ 0 := fun e => by subst e; revert hw; decide)
      (try have n1 : gs ≠ 1 := fun e => by subst e; revert hw; decide)
      (try have n2 : gs ≠ 2 := fun e => by subst e; revert hw; decide)
      (try have n3 : gs ≠ 3 := fun e => by subst e; revert hw; decide)
      (try have n4 : gs ≠ 4 := fun e => by subst e; revert hw; decide)
      unfold xTr
      rw [hgs]
      simp_all [zb, Int32.not_lt, Int32.not_le]
    · refine zw_iconst (x := 1) dX0_isTrue_67 rfl ?_
      refine zw_goto (tgt := 72) dX0_isTrue_68 (by decide) ?_
      refine zw_iret dX0_isTrue_72 rfl rfl ?_
      refine ⟨?_, rfl⟩
      (try have n0 : gs ≠ 0 := fun e => by subst e; revert hw; decide)
      (try have n1 : gs ≠ 1 := fun e => by subst e; revert hw; decide)
      (try have n2 : gs ≠ 2 := fun e => by subst e; revert hw; decide)
      (try have n3 : gs ≠ 3 := fun e => by subst e; revert hw; decide)
      (try have n4 : gs ≠ 4 := fun e => by subst e; revert hw; decide)
      unfold xTr
      rw [hgs]
      simp_all [zb, Int32.not_lt, Int32.not_le]
  · refine zw_tableIn (off := 51) (tgt := 73) dX0_isTrue_22 (by decide) (by decide) (by decide) (by decide) ?_
    refine zw_iload_n dX0_isTrue_73 rfl ?_
    refine zw_iload dX0_isTrue_74 rfl ?_
    refine zw_callS (y' := zmX5_valueIn) dX0_isTrue_76 zlX0_37 zmX5_valueIn_ok (c_X5_valueIn _ _) rfl rfl (Nat.le_of_ble_eq_true rfl) ⟨Nat.le_of_ble_eq_true rfl, Nat.le_of_ble_eq_true rfl⟩ ⟨Nat.le_of_ble_eq_true rfl, Nat.le_of_ble_eq_true rfl⟩ ?_
    intro v76 s76 q76
    obtain ⟨rfl, z76⟩ := q76
    rw [z76]
    clear z76
    refine zw_iload dX0_isTrue_79 rfl ?_
    refine zw_icmpne (tgt := 88) dX0_isTrue_81 (by decide) (fun c81 => ?_) (fun c81 => ?_)
    · refine zw_iconst (x := 0) dX0_isTrue_88 rfl ?_
      refine zw_iret dX0_isTrue_89 rfl rfl ?_
      refine ⟨?_, rfl⟩
      (try have n0 : gs ≠ 0 := fun e => by subst e; revert hw; decide)
      (try have n1 : gs ≠ 1 := fun e => by subst e; revert hw; decide)
      (try have n2 : gs ≠ 2 := fun e => by subst e; revert hw; decide)
      (try have n3 : gs ≠ 3 := fun e => by subst e; revert hw; decide)
      (try have n4 : gs ≠ 4 := fun e => by subst e; revert hw; decide)
      unfold xTr
      rw [hgs]
      simp_all [zb, Int32.not_lt, Int32.not_le]
    · refine zw_iconst (x := 1) dX0_isTrue_84 rfl ?_
      refine zw_goto (tgt := 89) dX0_isTrue_85 (by decide) ?_
      refine zw_iret dX0_isTrue_89 rfl rfl ?_
      refine ⟨?_, rfl⟩
      (try have n0 : gs ≠ 0 := fun e => by subst e; revert hw; decide)
      (try have n1 : gs ≠ 1 := fun e => by subst e; revert hw; decide)
      (try have n2 : gs ≠ 2 := fun e => by subst e; revert hw; decide)
      (try have n3 : gs ≠ 3 := fun e => by subst e; revert hw; decide)
      (try have n4 : gs ≠ 4 := fun e => by subst e; revert hw; decide)
      unfold xTr
      rw [hgs]
      simp_all [zb, Int32.not_lt, Int32.not_le]
  · refine zw_tableIn (off := 68) (tgt := 90) dX0_isTrue_22 (by decide) (by decide) (by decide) (by decide) ?_
    refine zw_iload_n dX0_isTrue_90 rfl ?_
    refine zw_iload dX0_isTrue_91 rfl ?_
    refine zw_callS (y' := zmX5_valueIn) dX0_isTrue_93 zlX0_37 zmX5_valueIn_ok (c_X5_valueIn _ _) rfl rfl (Nat.le_of_ble_eq_true rfl) ⟨Nat.le_of_ble_eq_true rfl, Nat.le_of_ble_eq_true rfl⟩ ⟨Nat.le_of_ble_eq_true rfl, Nat.le_of_ble_eq_true rfl⟩ ?_
    intro v93 s93 q93
    obtain ⟨rfl, z93⟩ := q93
    rw [z93]
    clear z93
    refine zw_iload dX0_isTrue_96 rfl ?_
    refine zw_icmpgt (tgt := 105) dX0_isTrue_98 (by decide) (fun c98 => ?_) (fun c98 => ?_)
    · refine zw_iconst (x := 0) dX0_isTrue_105 rfl ?_
      refine zw_iret dX0_isTrue_106 rfl rfl ?_
      refine ⟨?_, rfl⟩
      (try have n0 : gs ≠ 0 := fun e => by subst e; revert hw; decide)
      (try have n1 : gs ≠ 1 := fun e => by subst e; revert hw; decide)
      (try have n2 : gs ≠ 2 := fun e => by subst e; revert hw; decide)
      (try have n3 : gs ≠ 3 := fun e => by subst e; revert hw; decide)
      (try have n4 : gs ≠ 4 := fun e => by subst e; revert hw; decide)
      unfold xTr
      rw [hgs]
      simp_all [zb, Int32.not_lt, Int32.not_le]
    · refine zw_iconst (x := 1) dX0_isTrue_101 rfl ?_
      refine zw_goto (tgt := 106) dX0_isTrue_102 (by decide) ?_
      refine zw_iret dX0_isTrue_106 rfl rfl ?_
      refine ⟨?_, rfl⟩
      (try have n0 : gs ≠ 0 := fun e => by subst e; revert hw; decide)
      (try have n1 : gs ≠ 1 := fun e => by subst e; revert hw; decide)
      (try have n2 : gs ≠ 2 := fun e => by subst e; revert hw; decide)
      (try have n3 : gs ≠ 3 := fun e => by subst e; revert hw; decide)
      (try have n4 : gs ≠ 4 := fun e => by subst e; revert hw; decide)
      unfold xTr
      rw [hgs]
      simp_all [zb, Int32.not_lt, Int32.not_le]
  · refine zw_tableIn (off := 85) (tgt := 107) dX0_isTrue_22 (by decide) (by decide) (by decide) (by decide) ?_
    refine zw_iload_n dX0_isTrue_107 rfl ?_
    refine zw_iload dX0_isTrue_108 rfl ?_
    refine zw_callS (y' := zmX0_isKnown) dX0_isTrue_110 zlX0_29 zmX0_isKnown_ok (c_X0_isKnown _ _) rfl rfl (Nat.le_of_ble_eq_true rfl) ⟨Nat.le_of_ble_eq_true rfl, Nat.le_of_ble_eq_true rfl⟩ ⟨Nat.le_of_ble_eq_true rfl, Nat.le_of_ble_eq_true rfl⟩ ?_
    intro v110 s110 q110
    obtain ⟨rfl, z110⟩ := q110
    rw [z110]
    clear z110
    refine zw_ifne (tgt := 120) dX0_isTrue_113 (by decide) (fun c113 => ?_) (fun c113 => ?_)
    · refine zw_iconst (x := 0) dX0_isTrue_120 rfl ?_
      refine zw_iret dX0_isTrue_121 rfl rfl ?_
      refine ⟨?_, rfl⟩
      (try have n0 : gs ≠ 0 := fun e => by subst e; revert hw; decide)
      (try have n1 : gs ≠ 1 := fun e => by subst e; revert hw; decide)
      (try have n2 : gs ≠ 2 := fun e => by subst e; revert hw; decide)
      (try have n3 : gs ≠ 3 := fun e => by subst e; revert hw; decide)
      (try have n4 : gs ≠ 4 := fun e => by subst e; revert hw; decide)
      unfold xTr
      rw [hgs]
      simp_all [zb, Int32.not_lt, Int32.not_le]
    · refine zw_iconst (x := 1) dX0_isTrue_116 rfl ?_
      refine zw_goto (tgt := 121) dX0_isTrue_117 (by decide) ?_
      refine zw_iret dX0_isTrue_121 rfl rfl ?_
      refine ⟨?_, rfl⟩
      (try have n0 : gs ≠ 0 := fun e => by subst e; revert hw; decide)
      (try have n1 : gs ≠ 1 := fun e => by subst e; revert hw; decide)
      (try have n2 : gs ≠ 2 := fun e => by subst e; revert hw; decide)
      (try have n3 : gs ≠ 3 := fun e => by subst e; revert hw; decide)
      (try have n4 : gs ≠ 4 := fun e => by subst e; revert hw; decide)
      unfold xTr
      rw [hgs]
      simp_all [zb, Int32.not_lt, Int32.not_le]
  · refine zw_tableIn (off := 100) (tgt := 122) dX0_isTrue_22 (by decide) (by decide) (by decide) (by decide) ?_
    refine zw_iload_n dX0_isTrue_122 rfl ?_
    refine zw_iload dX0_isTrue_123 rfl ?_
    refine zw_callS (y' := zmX0_isKnown) dX0_isTrue_125 zlX0_29 zmX0_isKnown_ok (c_X0_isKnown _ _) rfl rfl (Nat.le_of_ble_eq_true rfl) ⟨Nat.le_of_ble_eq_true rfl, Nat.le_of_ble_eq_true rfl⟩ ⟨Nat.le_of_ble_eq_true rfl, Nat.le_of_ble_eq_true rfl⟩ ?_
    intro v125 s125 q125
    obtain ⟨rfl, z125⟩ := q125
    rw [z125]
    clear z125
    refine zw_ifeq (tgt := 144) dX0_isTrue_128 (by decide) (fun c128 => ?_) (fun c128 => ?_)
    · refine zw_iconst (x := 0) dX0_isTrue_144 rfl ?_
      refine zw_iret dX0_isTrue_145 rfl rfl ?_
      refine ⟨?_, rfl⟩
      (try have n0 : gs ≠ 0 := fun e => by subst e; revert hw; decide)
      (try have n1 : gs ≠ 1 := fun e => by subst e; revert hw; decide)
      (try have n2 : gs ≠ 2 := fun e => by subst e; revert hw; decide)
      (try have n3 : gs ≠ 3 := fun e => by subst e; revert hw; decide)
      (try have n4 : gs ≠ 4 := fun e => by subst e; revert hw; decide)
      unfold xTr
      rw [hgs]
      simp_all [zb, Int32.not_lt, Int32.not_le]
    · refine zw_iload_n dX0_isTrue_131 rfl ?_
      refine zw_iload dX0_isTrue_132 rfl ?_
      refine zw_callS (y' := zmX0_isKnown) dX0_isTrue_134 zlX0_29 zmX0_isKnown_ok (c_X0_isKnown _ _) rfl rfl (Nat.le_of_ble_eq_true rfl) ⟨Nat.le_of_ble_eq_true rfl, Nat.le_of_ble_eq_true rfl⟩ ⟨Nat.le_of_ble_eq_true rfl, Nat.le_of_ble_eq_true rfl⟩ ?_
      intro v134 s134 q134
      obtain ⟨rfl, z134⟩ := q134
      rw [z134]
      clear z134
      refine zw_ifeq (tgt := 144) dX0_isTrue_137 (by decide) (fun c137 => ?_) (fun c137 => ?_)
      · refine zw_iconst (x := 0) dX0_isTrue_144 rfl ?_
        refine zw_iret dX0_isTrue_145 rfl rfl ?_
        refine ⟨?_, rfl⟩
        (try have n0 : gs ≠ 0 := fun e => by subst e; revert hw; decide)
        (try have n1 : gs ≠ 1 := fun e => by subst e; revert hw; decide)
        (try have n2 : gs ≠ 2 := fun e => by subst e; revert hw; decide)
        (try have n3 : gs ≠ 3 := fun e => by subst e; revert hw; decide)
        (try have n4 : gs ≠ 4 := fun e => by subst e; revert hw; decide)
        unfold xTr
        rw [hgs]
        simp_all [zb, Int32.not_lt, Int32.not_le]
      · refine zw_iconst (x := 1) dX0_isTrue_140 rfl ?_
        refine zw_goto (tgt := 145) dX0_isTrue_141 (by decide) ?_
        refine zw_iret dX0_isTrue_145 rfl rfl ?_
        refine ⟨?_, rfl⟩
        (try have n0 : gs ≠ 0 := fun e => by subst e; revert hw; decide)
        (try have n1 : gs ≠ 1 := fun e => by subst e; revert hw; decide)
        (try have n2 : gs ≠ 2 := fun e => by subst e; revert hw; decide)
        (try have n3 : gs ≠ 3 := fun e => by subst e; revert hw; decide)
        (try have n4 : gs ≠ 4 := fun e => by subst e; revert hw; decide)
        unfold xTr
        rw [hgs]
        simp_all [zb, Int32.not_lt, Int32.not_le]
  · refine zw_tableOut (tgt := 146) dX0_isTrue_22 hw (by decide) ?_
    refine zw_iload_n dX0_isTrue_146 rfl ?_
    refine zw_iload dX0_isTrue_147 rfl ?_
    refine zw_callS (y' := zmX0_isKnown) dX0_isTrue_149 zlX0_29 zmX0_isKnown_ok (c_X0_isKnown _ _) rfl rfl (Nat.le_of_ble_eq_true rfl) ⟨Nat.le_of_ble_eq_true rfl, Nat.le_of_ble_eq_true rfl⟩ ⟨Nat.le_of_ble_eq_true rfl, Nat.le_of_ble_eq_true rfl⟩ ?_
    intro v149 s149 q149
    obtain ⟨rfl, z149⟩ := q149
    rw [z149]
    clear z149
    refine zw_ifne (tgt := 164) dX0_isTrue_152 (by decide) (fun c152 => ?_) (fun c152 => ?_)
    · refine zw_iconst (x := 1) dX0_isTrue_164 rfl ?_
      refine zw_goto (tgt := 169) dX0_isTrue_165 (by decide) ?_
      refine zw_iret dX0_isTrue_169 rfl rfl ?_
      refine ⟨?_, rfl⟩
      (try have n0 : gs ≠ 0 := fun e => by subst e; revert hw; decide)
      (try have n1 : gs ≠ 1 := fun e => by subst e; revert hw; decide)
      (try have n2 : gs ≠ 2 := fun e => by subst e; revert hw; decide)
      (try have n3 : gs ≠ 3 := fun e => by subst e; revert hw; decide)
      (try have n4 : gs ≠ 4 := fun e => by subst e; revert hw; decide)
      unfold xTr
      rw [hgs]
      simp_all [zb, Int32.not_lt, Int32.not_le]
    · refine zw_iload_n dX0_isTrue_155 rfl ?_
      refine zw_iload dX0_isTrue_156 rfl ?_
      refine zw_callS (y' := zmX0_isKnown) dX0_isTrue_158 zlX0_29 zmX0_isKnown_ok (c_X0_isKnown _ _) rfl rfl (Nat.le_of_ble_eq_true rfl) ⟨Nat.le_of_ble_eq_true rfl, Nat.le_of_ble_eq_true rfl⟩ ⟨Nat.le_of_ble_eq_true rfl, Nat.le_of_ble_eq_true rfl⟩ ?_
      intro v158 s158 q158
      obtain ⟨rfl, z158⟩ := q158
      rw [z158]
      clear z158
      refine zw_ifeq (tgt := 168) dX0_isTrue_161 (by decide) (fun c161 => ?_) (fun c161 => ?_)
      · refine zw_iconst (x := 0) dX0_isTrue_168 rfl ?_
        refine zw_iret dX0_isTrue_169 rfl rfl ?_
        refine ⟨?_, rfl⟩
        (try have n0 : gs ≠ 0 := fun e => by subst e; revert hw; decide)
        (try have n1 : gs ≠ 1 := fun e => by subst e; revert hw; decide)
        (try have n2 : gs ≠ 2 := fun e => by subst e; revert hw; decide)
        (try have n3 : gs ≠ 3 := fun e => by subst e; revert hw; decide)
        (try have n4 : gs ≠ 4 := fun e => by subst e; revert hw; decide)
        unfold xTr
        rw [hgs]
        simp_all [zb, Int32.not_lt, Int32.not_le]
      · refine zw_iconst (x := 1) dX0_isTrue_164 rfl ?_
        refine zw_goto (tgt := 169) dX0_isTrue_165 (by decide) ?_
        refine zw_iret dX0_isTrue_169 rfl rfl ?_
        refine ⟨?_, rfl⟩
        (try have n0 : gs ≠ 0 := fun e => by subst e; revert hw; decide)
        (try have n1 : gs ≠ 1 := fun e => by subst e; revert hw; decide)
        (try have n2 : gs ≠ 2 := fun e => by subst e; revert hw; decide)
        (try have n3 : gs ≠ 3 := fun e => by subst e; revert hw; decide)
        (try have n4 : gs ≠ 4 := fun e => by subst e; revert hw; decide)
        unfold xTr
        rw [hgs]
        simp_all [zb, Int32.not_lt, Int32.not_le]
set_option maxHeartbeats 4000000 in
set_option maxRecDepth 100000 in
theorem lp_isTrueIn {l : Launch} {σ : zS} (h : xSh σ) {n f : Nat} (hn : xFz σ = nI n) (hn12 : n ≤ 12) (hf : f < n) (k : Int32) {Q : Option Value → zS → Prop} : ∀ (d i : Nat) (kn : Int32), i + d = f + 1 → Q (some (.int (zb (xIsK (xKn σ k d i kn) (nI f))))) σ → zAW l zmX0_isTrueIn { frames := 2, cells := 0, slots := 0, locals := 46 } 5 [(0, .ref 17), (1, .int (nI f)), (2, .int k), (3, .int kn), (4, .int (nI i))] [] σ 0 0 Q := by
  intro d
  induction d with
  | zero =>
    intro i kn hd hQ
    have hd : i = f + 1 := hd
    subst hd
    refine zw_iload dX0_isTrueIn_5 rfl ?_
    refine zw_iload_n dX0_isTrueIn_7 rfl ?_
    refine zw_icmpgt (tgt := 44) dX0_isTrueIn_8 (by decide) (fun c8 => ?_) (fun c8 => ?_)
    · refine zw_iload_n dX0_isTrueIn_44 rfl ?_
      refine zw_iload_n dX0_isTrueIn_45 rfl ?_
      refine zw_callS (y' := zmX0_isKnown) dX0_isTrueIn_46 zlX0_29 zmX0_isKnown_ok (c_X0_isKnown _ _) rfl rfl (Nat.le_of_ble_eq_true rfl) ⟨Nat.le_of_ble_eq_true rfl, Nat.le_of_ble_eq_true rfl⟩ ⟨Nat.le_of_ble_eq_true rfl, Nat.le_of_ble_eq_true rfl⟩ ?_
      intro v46 s46 q46
      obtain ⟨rfl, z46⟩ := q46
      rw [z46]
      clear z46
      refine zw_iret dX0_isTrueIn_49 rfl (znz _) ?_
      exact hQ
    · exact absurd (nI_lt (Nat.lt_succ_self f) (by omega)) c8
  | succ d ih =>
    intro i kn hd hQ
    rw [xKn] at hQ
    refine zw_iload dX0_isTrueIn_5 rfl ?_
    refine zw_iload_n dX0_isTrueIn_7 rfl ?_
    refine zw_icmpgt (tgt := 44) dX0_isTrueIn_8 (by decide) (fun c8 => ?_) (fun c8 => ?_)
    · exact absurd c8 (nI_nlt (show i ≤ f by omega) (by omega))
    · refine zw_iload dX0_isTrueIn_11 rfl ?_
      refine zw_aload_n dX0_isTrueIn_13 rfl ?_
      refine zw_getI dX0_isTrueIn_14 zfX0_21 rfl (xk_17 h) (by decide) ?_
      refine zw_icmpge (tgt := 44) dX0_isTrueIn_17 (by decide) (fun c17 => ?_) (fun c17 => ?_)
      · rw [show zF σ 0 3 17 = nI n from hn] at c17
        exact absurd c17 (nI_ge (show i < n by omega) (by omega))
      · refine zw_aload_n dX0_isTrueIn_20 rfl ?_
        refine zw_iload dX0_isTrueIn_21 rfl ?_
        refine zw_iload_n dX0_isTrueIn_23 rfl ?_
        refine zw_iload_n dX0_isTrueIn_24 rfl ?_
        refine zw_callV (y' := zmX0_isTrue) dX0_isTrueIn_25 zlX0_25 zmX0_isTrue_ok (xk_17 h) (by decide) rfl (c_X0_isTrue h (by omega) _ _) rfl rfl (Nat.le_of_ble_eq_true rfl) ⟨Nat.le_of_ble_eq_true rfl, Nat.le_of_ble_eq_true rfl⟩ ⟨Nat.le_of_ble_eq_true rfl, Nat.le_of_ble_eq_true rfl⟩ ?_
        intro v25 s25 q25
        obtain ⟨rfl, z25⟩ := q25
        rw [z25]
        clear z25
        refine zw_ifeq (tgt := 38) dX0_isTrueIn_28 (by decide) (fun c28 => ?_) (fun c28 => ?_)
        · refine zw_iinc dX0_isTrueIn_38 rfl (by decide) rfl ?_
          refine zw_goto (tgt := 5) dX0_isTrueIn_41 (by decide) ?_
          rw [zb_0] at c28
          rw [if_neg (by rw [c28]; decide)] at hQ
          refine zw_loc (lc' := [(0, .ref 17), (1, .int (nI f)), (2, .int k), (3, .int kn), (4, .int (nI i + 1))]) (zsub_cons rfl (zsub_cons rfl (zsub_cons rfl (zsub_cons rfl (zsub_cons rfl zsub_nil))))) ?_
          rw [nI_1]
          exact ih (i + 1) _ (by omega) hQ
        · refine zw_iload_n dX0_isTrueIn_31 rfl ?_
          refine zw_iconst (x := 1) dX0_isTrueIn_32 rfl ?_
          refine zw_iload dX0_isTrueIn_33 rfl ?_
          refine zw_ishl dX0_isTrueIn_35 ?_
          refine zw_ior dX0_isTrueIn_36 ?_
          refine zw_istore_n dX0_isTrueIn_37 (by decide) rfl ?_
          refine zw_iinc dX0_isTrueIn_38 rfl (by decide) rfl ?_
          refine zw_goto (tgt := 5) dX0_isTrueIn_41 (by decide) ?_
          rw [zb_1] at c28
          rw [if_pos c28] at hQ
          refine zw_loc (lc' := [(0, .ref 17), (1, .int (nI f)), (2, .int k), (3, .int (kn ||| (1 <<< (nI i &&& 31)))), (4, .int (nI i + 1))]) (zsub_cons rfl (zsub_cons rfl (zsub_cons rfl (zsub_cons rfl (zsub_cons rfl zsub_nil))))) ?_
          rw [nI_1]
          exact ih (i + 1) _ (by omega) hQ
set_option maxHeartbeats 4000000 in
set_option maxRecDepth 100000 in
theorem c_X0_isTrueIn {l : Launch} {σ : zS} (h : xSh σ) {n f : Nat} (hn : xFz σ = nI n) (hn12 : n ≤ 12) (hf : f < n) (k : Int32) : zAM l zmX0_isTrueIn 2 46 0 0 [.ref 17, .int (nI f), .int k] σ (fun v σ' => v = some (.int (zb (xHold σ f k))) ∧ σ' = σ) := by
  refine zAM.of (by decide +kernel) (Nat.le_of_ble_eq_true rfl) ?_
  refine zw_iconst (x := 0) dX0_isTrueIn_0 rfl ?_
  refine zw_istore_n dX0_isTrueIn_1 (by decide) rfl ?_
  refine zw_iconst (x := 0) dX0_isTrueIn_2 rfl ?_
  refine zw_istore dX0_isTrueIn_3 (by decide) rfl ?_
  refine zw_loc (lc' := [(0, .ref 17), (1, .int (nI f)), (2, .int k), (3, .int 0), (4, .int (nI 0))]) (zsub_cons rfl (zsub_cons rfl (zsub_cons rfl (zsub_cons rfl (zsub_cons rfl zsub_nil))))) ?_
  exact lp_isTrueIn h hn hn12 hf k (f + 1) 0 0 (Nat.zero_add _) ⟨rfl, rfl⟩
end
section
/-! THE WALK FOR THE GREATEST SETS, as pure numbers: E x are the states to which x steps, w tells which states are without q; path and wait bear the top first; ord is 0 where nothing was entered yet -/
/-- y can be come to from x through states that w tells of -/
def tR (E : Nat → List Nat) (w : Nat → Bool) (a b : Nat) : Prop := ∀ P : Nat → Prop, P a → (∀ x y, P x → y ∈ E x → w y = true → P y) → P b
theorem tR.rf {E : Nat → List Nat} {w : Nat → Bool} {a : Nat} : tR E w a a := fun _ h _ => h
theorem tR.tr {E : Nat → List Nat} {w : Nat → Bool} {a b c : Nat} (h : tR E w a b) (h2 : tR E w b c) : tR E w a c := fun P ha hs => h2 P (h P ha hs) hs
theorem tR.st {E : Nat → List Nat} {w : Nat → Bool} {a b : Nat} (h : b ∈ E a) (hw : w b = true) : tR E w a b := fun _ ha hs => hs a b ha h hw
/-- from s a state without steps can be come to, or one that comes back to itself -/
def tWit (E : Nat → List Nat) (w : Nat → Bool) (s : Nat) : Prop := ∃ t, tR E w s t ∧ (E t = [] ∨ ∃ u, u ∈ E t ∧ w u = true ∧ tR E w u t)
theorem tWit.of {E : Nat → List Nat} {w : Nat → Bool} {a b : Nat} (h : tR E w a b) (h2 : tWit E w b) : tWit E w a := by
  obtain ⟨t, h3, h4⟩ := h2
  exact ⟨t, h.tr h3, h4⟩
def tU {α : Type} (f : Nat → α) (s : Nat) (v : α) : Nat → α := fun x => if x = s then v else f x
theorem tU_s {α : Type} {f : Nat → α} {s : Nat} {v : α} : tU f s v s = v := if_pos rfl
theorem tU_n {α : Type} {f : Nat → α} {s x : Nat} {v : α} (h : x ≠ s) : tU f s v x = f x := if_neg h
/-- p is the last of the path that was not entered behind x -/
def tOwn (ord : Nat → Nat) (path : List Nat) (p x : Nat) : Prop := p ∈ path ∧ ord p ≤ ord x ∧ ∀ p', p' ∈ path → ord p' ≤ ord x → ord p' ≤ ord p
def tInv (n : Nat) (E : Nat → List Nat) (w : Nat → Bool) (path wait : List Nat) (ord low nx : Nat → Nat) (bad : Nat → Bool) (en : Nat) : Prop :=
  (∀ x, x ∈ wait → 1 ≤ ord x) ∧ (∀ x, ord x ≠ 0 → x < n ∧ w x = true ∧ ord x ≤ en) ∧ wait.Pairwise (fun a b => ord b < ord a) ∧ (∀ p, p ∈ path → p ∈ wait) ∧ path.Pairwise (fun a b => ord b < ord a) ∧
  (∀ p, p ∈ path → ∀ x, x ∈ wait → ord p ≤ ord x → tR E w p x) ∧
  (∀ x, x ∈ wait → ∃ p, p ∈ path ∧ ord p ≤ ord x ∧ tR E w x p) ∧
  (∀ p, p ∈ path → low p ≤ ord p ∧ ∃ x, x ∈ wait ∧ ord x = low p ∧ tR E w p x) ∧
  (∀ x, x ∈ wait → ∀ i t, i < nx x → (E x)[i]? = some t → w t = true → ord t ≠ 0 ∧ (t ∈ wait → ∀ p, tOwn ord path p x → low p ≤ ord t)) ∧
  (∀ x, x ∈ wait → nx x ≤ (E x).length ∧ (x ∉ path → nx x = (E x).length)) ∧
  (∀ s, ord s ≠ 0 → s ∉ wait → (∀ t, t ∈ E s → w t = true → ord t ≠ 0 ∧ t ∉ wait) ∧ (E s = [] → bad s = true) ∧ (∀ t, t ∈ E s → w t = true → bad t = true → bad s = true)) ∧
  (∀ s, bad s = true → ord s ≠ 0 ∧ s ∉ wait ∧ tWit E w s)
theorem tInv_0 {n : Nat} {E : Nat → List Nat} {w : Nat → Bool} {ord low nx : Nat → Nat} {bad : Nat → Bool} {en : Nat} (h1 : ∀ x, ord x = 0) (h2 : ∀ x, bad x = false) : tInv n E w [] [] ord low nx bad en :=
  ⟨fun _ h => (List.not_mem_nil h).elim, fun x h => absurd (h1 x) h, List.Pairwise.nil, fun _ h => (List.not_mem_nil h).elim, List.Pairwise.nil, fun _ h => (List.not_mem_nil h).elim, fun _ h => (List.not_mem_nil h).elim, fun _ h => (List.not_mem_nil h).elim, fun _ h => (List.not_mem_nil h).elim, fun _ h => (List.not_mem_nil h).elim, fun s h => absurd (h1 s) h, fun s h => by rw [h2 s] at h; exact absurd h (by decide)⟩
/-- a state entered: the first of a walk, or by a step of the top -/
theorem tInv_enter {n : Nat} {E : Nat → List Nat} {w : Nat → Bool} {path wait : List Nat} {ord low nx : Nat → Nat} {bad : Nat → Bool} {en s : Nat} (h : tInv n E w path wait ord low nx bad en) (hs : s < n) (hw : w s = true) (h0 : ord s = 0) (nx' : Nat → Nat)
    (hp : (path = [] ∧ ∀ x, x ∈ wait → nx' x = nx x) ∨ ∃ v r, path = v :: r ∧ (E v)[nx v]? = some s ∧ nx' v = nx v + 1 ∧ ∀ x, x ≠ v → x ∈ wait → nx' x = nx x) :
    tInv n E w (s :: path) (s :: wait) (tU ord s (en + 1)) (tU low s (en + 1)) (tU nx' s 0) bad (en + 1) := by
  obtain ⟨a1, a2, a3, a4, a5, a6, a7, a8, a9, a10, a11, a12⟩ := h
  have hsw : s ∉ wait := fun q => by have := a1 s q; omega
  have hsp : s ∉ path := fun q => hsw (a4 s q)
  have o : ∀ x, x ∈ wait → tU ord s (en + 1) x = ord x := fun x hx => tU_n (fun e => hsw (e ▸ hx))
  have op : ∀ x, x ∈ path → tU ord s (en + 1) x = ord x := fun x hx => o x (a4 x hx)
  have lw : ∀ x, x ∈ path → tU low s (en + 1) x = low x := fun x hx => tU_n (fun e => hsp (e ▸ hx))
  have on : ∀ x, ord x ≠ 0 → tU ord s (en + 1) x = ord x := fun x hx => tU_n (fun e => by rw [e] at hx; exact hx h0)
  have ole : ∀ x, x ∈ wait → ord x ≤ en := fun x hx => (a2 x (by have := a1 x hx; omega)).2.2
  have hedge : ∀ p, p ∈ path → tR E w p s := by
    intro p hpp
    rcases hp with ⟨e, -⟩ | ⟨v, r, e, e2, -, -⟩
    · rw [e] at hpp
      exact (List.not_mem_nil hpp).elim
    · have hv : v ∈ path := by rw [e]; exact List.mem_cons_self
      have hle : ord p ≤ ord v := by
        rw [e] at hpp a5
        rcases List.mem_cons.mp hpp with q | q
        · rw [q]; exact Nat.le_refl _
        · exact Nat.le_of_lt ((List.pairwise_cons.mp a5).1 p q)
      exact (a6 p hpp v (a4 v hv) hle).tr (tR.st (List.mem_of_getElem? e2) hw)
  refine ⟨fun x hx => ?_, fun x hx => ?_, ?_, fun p hpp => ?_, ?_, fun p hpp x hx hle => ?_, fun x hx => ?_, fun p hpp => ?_, fun x hx i t hi ht hwt => ?_, fun x hx => ?_, fun x hx hxw => ?_, fun x hx => ?_⟩
  · rcases List.mem_cons.mp hx with q | q
    · rw [q, tU_s]; omega
    · rw [o x q]; exact a1 x q
  · by_cases q : x = s
    · rw [q, tU_s]
      exact ⟨hs, hw, Nat.le_refl _⟩
    · rw [tU_n q] at hx ⊢
      obtain ⟨b1, b2, b3⟩ := a2 x hx
      exact ⟨b1, b2, by omega⟩
  · refine List.pairwise_cons.mpr ⟨fun x hx => ?_, ?_⟩
    · rw [tU_s, o x hx]
      have := ole x hx
      omega
    · exact a3.imp_of_mem (fun ha hb hab => by rw [o _ ha, o _ hb]; exact hab)
  · rcases List.mem_cons.mp hpp with q | q
    · rw [q]; exact List.mem_cons_self
    · exact List.mem_cons_of_mem _ (a4 p q)
  · refine List.pairwise_cons.mpr ⟨fun x hx => ?_, ?_⟩
    · rw [tU_s, op x hx]
      have := ole x (a4 x hx)
      omega
    · exact a5.imp_of_mem (fun ha hb hab => by rw [op _ ha, op _ hb]; exact hab)
  · rcases List.mem_cons.mp hpp with q | q
    · rcases List.mem_cons.mp hx with q2 | q2
      · rw [q, q2]; exact tR.rf
      · rw [q, tU_s, o x q2] at hle
        have := ole x q2
        omega
    · rcases List.mem_cons.mp hx with q2 | q2
      · rw [q2]; exact hedge p q
      · rw [op p q, o x q2] at hle
        exact a6 p q x q2 hle
  · rcases List.mem_cons.mp hx with q | q
    · exact ⟨s, List.mem_cons_self, by rw [q]; exact Nat.le_refl _, by rw [q]; exact tR.rf⟩
    · obtain ⟨p, b1, b2, b3⟩ := a7 x q
      exact ⟨p, List.mem_cons_of_mem _ b1, by rw [op p b1, o x q]; exact b2, b3⟩
  · rcases List.mem_cons.mp hpp with q | q
    · rw [q]
      exact ⟨by rw [tU_s, tU_s]; exact Nat.le_refl _, s, List.mem_cons_self, by rw [tU_s, tU_s], tR.rf⟩
    · obtain ⟨b1, x, b2, b3, b4⟩ := a8 p q
      exact ⟨by rw [lw p q, op p q]; exact b1, x, List.mem_cons_of_mem _ b2, by rw [lw p q, o x b2]; exact b3, b4⟩
  · rcases List.mem_cons.mp hx with q | q
    · rw [q, tU_s] at hi
      omega
    · have hxs : x ≠ s := fun e => hsw (e ▸ q)
      rw [tU_n hxs] at hi
      have main : ord t ≠ 0 → (t ∈ wait → ∀ p, tOwn ord path p x → low p ≤ ord t) → tU ord s (en + 1) t ≠ 0 ∧ (t ∈ s :: wait → ∀ p, tOwn (tU ord s (en + 1)) (s :: path) p x → tU low s (en + 1) p ≤ tU ord s (en + 1) t) := by
        intro c1 c2
        refine ⟨by rw [on t c1]; exact c1, fun c3 p c4 => ?_⟩
        obtain ⟨d1, d2, d3⟩ := c4
        rw [o x q] at d2
        have hps : p ∈ path := by
          rcases List.mem_cons.mp d1 with z | z
          · rw [z, tU_s] at d2
            have := ole x q
            omega
          · exact z
        have htw : t ∈ wait := by
          rcases List.mem_cons.mp c3 with z | z
          · rw [z] at c1; exact absurd h0 c1
          · exact z
        rw [lw p hps, on t c1]
        refine c2 htw p ⟨hps, by rw [op p hps] at d2; exact d2, fun p' e1 e2 => ?_⟩
        have := d3 p' (List.mem_cons_of_mem _ e1) (by rw [op p' e1, o x q]; exact e2)
        rw [op p' e1, op p hps] at this
        exact this
      rcases hp with ⟨e, e2⟩ | ⟨v, r, e, e2, e3, e4⟩
      · rw [e2 x q] at hi
        obtain ⟨c1, c2⟩ := a9 x q i t hi ht hwt
        exact main c1 c2
      · by_cases hxv : x = v
        · subst hxv
          rw [e3] at hi
          by_cases hi2 : i < nx x
          · obtain ⟨c1, c2⟩ := a9 x q i t hi2 ht hwt
            exact main c1 c2
          · have hi3 : i = nx x := by omega
            rw [hi3, e2] at ht
            cases ht
            refine ⟨by rw [tU_s]; omega, fun _ p c4 => ?_⟩
            obtain ⟨d1, d2, d3⟩ := c4
            rw [o x q] at d2
            have hps : p ∈ path := by
              rcases List.mem_cons.mp d1 with z | z
              · rw [z, tU_s] at d2
                have := ole x q
                omega
              · exact z
            rw [lw p hps, tU_s]
            have b1 := (a8 p hps).1
            have b2 := ole p (a4 p hps)
            omega
        · rw [e4 x hxv q] at hi
          obtain ⟨c1, c2⟩ := a9 x q i t hi ht hwt
          exact main c1 c2
  · rcases List.mem_cons.mp hx with q | q
    · rw [q, tU_s]
      exact ⟨Nat.zero_le _, fun z => absurd List.mem_cons_self z⟩
    · have hxs : x ≠ s := fun e => hsw (e ▸ q)
      rw [tU_n hxs]
      obtain ⟨b1, b2⟩ := a10 x q
      rcases hp with ⟨e, e2⟩ | ⟨v, r, e, e2, e3, e4⟩
      · rw [e2 x q]
        exact ⟨b1, fun z => b2 (fun z2 => z (List.mem_cons_of_mem _ z2))⟩
      · by_cases hxv : x = v
        · subst hxv
          rw [e3]
          have := (List.getElem?_eq_some_iff.mp e2).1
          exact ⟨by omega, fun z => absurd (List.mem_cons_of_mem _ (by rw [e]; exact List.mem_cons_self)) z⟩
        · rw [e4 x hxv q]
          exact ⟨b1, fun z => b2 (fun z2 => z (List.mem_cons_of_mem _ z2))⟩
  · have hxs : x ≠ s := fun e => hxw (by rw [e]; exact List.mem_cons_self)
    rw [tU_n hxs] at hx
    obtain ⟨b1, b2, b3⟩ := a11 x hx (fun z => hxw (List.mem_cons_of_mem _ z))
    refine ⟨fun t ht hwt => ?_, b2, b3⟩
    obtain ⟨c1, c2⟩ := b1 t ht hwt
    refine ⟨by rw [on t c1]; exact c1, fun z => ?_⟩
    rcases List.mem_cons.mp z with z | z
    · rw [z] at c1; exact c1 h0
    · exact c2 z
  · obtain ⟨b1, b2, b3⟩ := a12 x hx
    refine ⟨by rw [on x b1]; exact b1, fun z => ?_, b3⟩
    rcases List.mem_cons.mp z with z | z
    · rw [z] at b1; exact b1 h0
    · exact b2 z
/-- a step of the top followed to a state that isn't entered by it: q holds there, or it is entered already -/
theorem tInv_follow {n : Nat} {E : Nat → List Nat} {w : Nat → Bool} {r wait : List Nat} {ord low nx : Nat → Nat} {bad : Nat → Bool} {en v t : Nat} (h : tInv n E w (v :: r) wait ord low nx bad en) (ht : (E v)[nx v]? = some t) (low' : Nat → Nat)
    (hc : (w t = false ∧ low' = low) ∨ (ord t ≠ 0 ∧ t ∉ wait ∧ low' = low) ∨ (w t = true ∧ ord t ≠ 0 ∧ t ∈ wait ∧ low' = tU low v (min (low v) (ord t)))) :
    tInv n E w (v :: r) wait ord low' (tU nx v (nx v + 1)) bad en := by
  obtain ⟨a1, a2, a3, a4, a5, a6, a7, a8, a9, a10, a11, a12⟩ := h
  have hv : v ∈ wait := a4 v List.mem_cons_self
  have hlow : ∀ p, low' p ≤ low p := by
    intro p
    rcases hc with ⟨-, e⟩ | ⟨-, -, e⟩ | ⟨-, -, -, e⟩
    · rw [e]; exact Nat.le_refl _
    · rw [e]; exact Nat.le_refl _
    · rw [e]
      by_cases q : p = v
      · rw [q, tU_s]; exact Nat.min_le_left _ _
      · rw [tU_n q]; exact Nat.le_refl _
  refine ⟨a1, a2, a3, a4, a5, a6, a7, fun p hp => ?_, fun x hx i t' hi ht' hwt => ?_, fun x hx => ?_, a11, a12⟩
  · obtain ⟨b1, x, b2, b3, b4⟩ := a8 p hp
    refine ⟨Nat.le_trans (hlow p) b1, ?_⟩
    rcases hc with ⟨-, e⟩ | ⟨-, -, e⟩ | ⟨c1, c2, c3, e⟩
    · rw [e]; exact ⟨x, b2, b3, b4⟩
    · rw [e]; exact ⟨x, b2, b3, b4⟩
    · rw [e]
      by_cases q : p = v
      · rw [q, tU_s]
        rw [q] at b3 b4
        by_cases hm : low v ≤ ord t
        · rw [Nat.min_eq_left hm]
          exact ⟨x, b2, b3, b4⟩
        · rw [Nat.min_eq_right (by omega)]
          exact ⟨t, c3, rfl, tR.st (List.mem_of_getElem? ht) c1⟩
      · rw [tU_n q]
        exact ⟨x, b2, b3, b4⟩
  · by_cases hxv : x = v
    · subst hxv
      rw [tU_s] at hi
      by_cases hi2 : i < nx x
      · obtain ⟨c1, c2⟩ := a9 x hx i t' hi2 ht' hwt
        exact ⟨c1, fun z p hp => Nat.le_trans (hlow p) (c2 z p hp)⟩
      · have hi3 : i = nx x := by omega
        rw [hi3, ht] at ht'
        cases ht'
        rcases hc with ⟨c1, -⟩ | ⟨c1, c2, -⟩ | ⟨-, c2, c3, e⟩
        · rw [c1] at hwt; exact absurd hwt (by decide)
        · exact ⟨c1, fun z => absurd z c2⟩
        · refine ⟨c2, fun _ p hp => ?_⟩
          have hpx : ord x ≤ ord p := hp.2.2 x List.mem_cons_self (Nat.le_refl _)
          have hpv : p = x := by
            rcases List.mem_cons.mp hp.1 with z | z
            · exact z
            · have := (List.pairwise_cons.mp a5).1 p z
              omega
          rw [hpv, e, tU_s]
          exact Nat.min_le_right _ _
    · rw [tU_n hxv] at hi
      obtain ⟨c1, c2⟩ := a9 x hx i t' hi ht' hwt
      exact ⟨c1, fun z p hp => Nat.le_trans (hlow p) (c2 z p hp)⟩
  · by_cases hxv : x = v
    · subst hxv
      rw [tU_s]
      have := (List.getElem?_eq_some_iff.mp ht).1
      exact ⟨by omega, fun z => absurd List.mem_cons_self z⟩
    · rw [tU_n hxv]
      exact a10 x hx
end
section
/-- a state left that comes back to one before it: it goes on waiting -/
theorem tInv_leave {n : Nat} {E : Nat → List Nat} {w : Nat → Bool} {r wait : List Nat} {ord low nx : Nat → Nat} {bad : Nat → Bool} {en v : Nat} (h : tInv n E w (v :: r) wait ord low nx bad en) (hn : nx v = (E v).length) (hl : low v ≠ ord v) :
    ∃ b r', r = b :: r' ∧ tInv n E w r wait ord (tU low b (min (low b) (low v))) nx bad en := by
  obtain ⟨a1, a2, a3, a4, a5, a6, a7, a8, a9, a10, a11, a12⟩ := h
  have hv : v ∈ wait := a4 v List.mem_cons_self
  obtain ⟨l1, y, y1, y2, y3⟩ := a8 v List.mem_cons_self
  have hlt : low v < ord v := by omega
  have back : ∃ p, p ∈ r ∧ ord p ≤ ord y ∧ tR E w v p := by
    obtain ⟨p, p1, p2, p3⟩ := a7 y y1
    rcases List.mem_cons.mp p1 with q | q
    · rw [q] at p2; omega
    · exact ⟨p, q, p2, y3.tr p3⟩
  cases r with
  | nil =>
    obtain ⟨p, p1, -, -⟩ := back
    exact (List.not_mem_nil p1).elim
  | cons b r' =>
    refine ⟨b, r', rfl, ?_⟩
    have hbv : ord b < ord v := (List.pairwise_cons.mp a5).1 b List.mem_cons_self
    have hb : b ∈ v :: b :: r' := List.mem_cons_of_mem _ List.mem_cons_self
    have hlow : ∀ p, tU low b (min (low b) (low v)) p ≤ low p := by
      intro p
      by_cases q : p = b
      · rw [q, tU_s]; exact Nat.min_le_left _ _
      · rw [tU_n q]; exact Nat.le_refl _
    refine ⟨a1, a2, a3, fun p hp => a4 p (List.mem_cons_of_mem _ hp), (List.pairwise_cons.mp a5).2, fun p hp => a6 p (List.mem_cons_of_mem _ hp), fun x hx => ?_, fun p hp => ?_, fun x hx i t hi ht hwt => ?_, fun x hx => ?_, a11, a12⟩
    · obtain ⟨p, p1, p2, p3⟩ := a7 x hx
      rcases List.mem_cons.mp p1 with q | q
      · obtain ⟨p', b1, b2, b3⟩ := back
        rw [q] at p2 p3
        exact ⟨p', b1, by omega, p3.tr b3⟩
      · exact ⟨p, q, p2, p3⟩
    · obtain ⟨b1, x, b2, b3, b4⟩ := a8 p (List.mem_cons_of_mem _ hp)
      refine ⟨Nat.le_trans (hlow p) b1, ?_⟩
      by_cases q : p = b
      · rw [q] at b3 b4 ⊢
        rw [tU_s]
        by_cases hm : low b ≤ low v
        · rw [Nat.min_eq_left hm]
          exact ⟨x, b2, b3, b4⟩
        · rw [Nat.min_eq_right (by omega)]
          exact ⟨y, y1, y2, (a6 b hb v hv (Nat.le_of_lt hbv)).tr y3⟩
      · rw [tU_n q]
        exact ⟨x, b2, b3, b4⟩
    · obtain ⟨c1, c2⟩ := a9 x hx i t hi ht hwt
      refine ⟨c1, fun htw p hp => ?_⟩
      obtain ⟨d1, d2, d3⟩ := hp
      by_cases hxv : ord v ≤ ord x
      · have e1 := c2 htw v ⟨List.mem_cons_self, hxv, fun p' f1 _ => by
          rcases List.mem_cons.mp f1 with z | z
          · rw [z]; exact Nat.le_refl _
          · exact Nat.le_of_lt ((List.pairwise_cons.mp a5).1 p' z)⟩
        have e2 : p = b := by
          have := d3 b List.mem_cons_self (by omega)
          rcases List.mem_cons.mp d1 with z | z
          · exact z
          · have := (List.pairwise_cons.mp (List.pairwise_cons.mp a5).2).1 p z
            omega
        rw [e2, tU_s]
        exact Nat.le_trans (Nat.min_le_right _ _) e1
      · refine Nat.le_trans (hlow p) (c2 htw p ⟨List.mem_cons_of_mem _ d1, d2, fun p' f1 f2 => ?_⟩)
        rcases List.mem_cons.mp f1 with z | z
        · rw [z] at f2; omega
        · exact d3 p' z f2
    · obtain ⟨b1, b2⟩ := a10 x hx
      refine ⟨b1, fun z => ?_⟩
      by_cases q : x = v
      · rw [q]; exact hn
      · exact b2 (fun z2 => by
          rcases List.mem_cons.mp z2 with z2 | z2
          · exact q z2
          · exact z z2)
/-- a state left that comes back to none before it: what waits from it on is a set of its own, and is closed -/
theorem tInv_close {n : Nat} {E : Nat → List Nat} {w : Nat → Bool} {r A B : List Nat} {ord low nx : Nat → Nat} {bad : Nat → Bool} {en v : Nat} (h : tInv n E w (v :: r) (A ++ v :: B) ord low nx bad en) (hn : nx v = (E v).length) (hl : low v = ord v) (low' : Nat → Nat) (hlow : ∀ p, p ∈ r → low' p = low p) (g : Bool)
    (g1 : g = true → (∃ x t, (x ∈ A ∨ x = v) ∧ t ∈ E x ∧ w t = true ∧ t ∉ A ++ v :: B ∧ bad t = true) ∨ (A = [] → v ∈ E v ∨ E v = []))
    (g2 : ∀ x t, (x ∈ A ∨ x = v) → t ∈ E x → w t = true → t ∉ A ++ v :: B → bad t = true → g = true) (g3 : A = [] → E v = [] → g = true)
    (bad' : Nat → Bool) (hb : ∀ x, (x ∈ A ∨ x = v) → bad' x = g) (hb' : ∀ x, ¬(x ∈ A ∨ x = v) → bad' x = bad x) :
    tInv n E w r B ord low' nx bad' en := by
  obtain ⟨a1, a2, a3, a4, a5, a6, a7, a8, a9, a10, a11, a12⟩ := h
  have hv : v ∈ A ++ v :: B := List.mem_append_right _ List.mem_cons_self
  have hA : ∀ x, x ∈ A → ord v < ord x := fun x hx => (List.pairwise_append.mp a3).2.2 x hx v List.mem_cons_self
  have hB : ∀ x, x ∈ B → ord x < ord v := fun x hx => (List.pairwise_cons.mp (List.pairwise_append.mp a3).2.1).1 x hx
  have iB : ∀ x, x ∈ B → x ∈ A ++ v :: B := fun x hx => List.mem_append_right _ (List.mem_cons_of_mem _ hx)
  have iS : ∀ x, (x ∈ A ∨ x = v) → x ∈ A ++ v :: B := fun x hx => by
    rcases hx with q | q
    · exact List.mem_append_left _ q
    · rw [q]; exact hv
  have dW : ∀ x, x ∈ A ++ v :: B → (x ∈ A ∨ x = v) ∨ x ∈ B := fun x hx => by
    rcases List.mem_append.mp hx with q | q
    · exact .inl (.inl q)
    · rcases List.mem_cons.mp q with q | q
      · exact .inl (.inr q)
      · exact .inr q
  have oS : ∀ x, (x ∈ A ∨ x = v) → ord v ≤ ord x := fun x hx => by
    rcases hx with q | q
    · exact Nat.le_of_lt (hA x q)
    · rw [q]; exact Nat.le_refl _
  have nSB : ∀ x, x ∈ B → ¬(x ∈ A ∨ x = v) := fun x hx q => by
    have := hB x hx
    have := oS x q
    omega
  have hr : ∀ p, p ∈ r → ord p < ord v := fun p hp => (List.pairwise_cons.mp a5).1 p hp
  have hrB : ∀ p, p ∈ r → p ∈ B := fun p hp => by
    rcases dW p (a4 p (List.mem_cons_of_mem _ hp)) with q | q
    · have := oS p q
      have := hr p hp
      omega
    · exact q
  have own : ∀ x, (x ∈ A ∨ x = v) → tOwn ord (v :: r) v x := fun x hx => ⟨List.mem_cons_self, oS x hx, fun p' f1 _ => by
    rcases List.mem_cons.mp f1 with z | z
    · rw [z]; exact Nat.le_refl _
    · exact Nat.le_of_lt (hr p' z)⟩
  have full : ∀ x, (x ∈ A ∨ x = v) → nx x = (E x).length := fun x hx => by
    by_cases q : x = v
    · rw [q]; exact hn
    · refine (a10 x (iS x hx)).2 (fun z => ?_)
      rcases List.mem_cons.mp z with z | z
      · exact q z
      · have := hr x z
        have := oS x hx
        omega
  have edge : ∀ x t, (x ∈ A ∨ x = v) → t ∈ E x → w t = true → ord t ≠ 0 ∧ ((t ∈ A ∨ t = v) ∨ t ∉ A ++ v :: B) := fun x t hx ht hwt => by
    obtain ⟨i, hi⟩ := List.getElem?_of_mem ht
    have hi2 := (List.getElem?_eq_some_iff.mp hi).1
    obtain ⟨c1, c2⟩ := a9 x (iS x hx) i t (by rw [full x hx]; exact hi2) hi hwt
    refine ⟨c1, ?_⟩
    by_cases q : t ∈ A ++ v :: B
    · have := c2 q v (own x hx)
      rcases dW t q with z | z
      · exact .inl z
      · have := hB t z
        omega
    · exact .inr q
  have stay : ∀ x y, (x ∈ A ∨ x = v) → tR E w x y → (y ∈ A ∨ y = v) ∨ (ord y ≠ 0 ∧ y ∉ A ++ v :: B) := fun x y hx hxy => by
    refine hxy (fun z => (z ∈ A ∨ z = v) ∨ (ord z ≠ 0 ∧ z ∉ A ++ v :: B)) (.inl hx) (fun z t hz ht hwt => ?_)
    rcases hz with hz | ⟨z1, z2⟩
    · obtain ⟨c1, c2⟩ := edge z t hz ht hwt
      rcases c2 with c2 | c2
      · exact .inl c2
      · exact .inr ⟨c1, c2⟩
    · exact .inr ((a11 z z1 z2).1 t ht hwt)
  have toV : ∀ x, (x ∈ A ∨ x = v) → tR E w x v := fun x hx => by
    obtain ⟨p, p1, p2, p3⟩ := a7 x (iS x hx)
    rcases List.mem_cons.mp p1 with q | q
    · rw [← q]; exact p3
    · rcases stay x p hx p3 with z | z
      · exact absurd z (nSB p (hrB p q))
      · exact absurd (iB p (hrB p q)) z.2
  have ofV : ∀ x, (x ∈ A ∨ x = v) → tR E w v x := fun x hx => a6 v List.mem_cons_self x (iS x hx) (oS x hx)
  have all : ∀ x y, (x ∈ A ∨ x = v) → (y ∈ A ∨ y = v) → tR E w x y := fun x y hx hy => (toV x hx).tr (ofV y hy)
  have wS : ∀ x, (x ∈ A ∨ x = v) → ord x ≠ 0 := fun x hx => by
    have := a1 x (iS x hx)
    omega
  have inner : A ≠ [] → ∃ x t, (x ∈ A ∨ x = v) ∧ (t ∈ A ∨ t = v) ∧ t ∈ E x ∧ w t = true := fun hne => by
    obtain ⟨y, hy⟩ := List.exists_mem_of_ne_nil A hne
    refine Classical.byContradiction (fun hno => ?_)
    have q : y = v ∨ (ord y ≠ 0 ∧ y ∉ A ++ v :: B) := by
      refine (ofV y (.inl hy)) (fun z => z = v ∨ (ord z ≠ 0 ∧ z ∉ A ++ v :: B)) (.inl rfl) (fun z t hz ht hwt => ?_)
      rcases hz with hz | ⟨z1, z2⟩
      · obtain ⟨c1, c2⟩ := edge z t (.inr hz) ht hwt
        rcases c2 with c2 | c2
        · exact absurd ⟨z, t, .inr hz, c2, ht, hwt⟩ hno
        · exact .inr ⟨c1, c2⟩
      · exact .inr ((a11 z z1 z2).1 t ht hwt)
    rcases q with q | q
    · have := hA y hy
      rw [q] at this
      omega
    · exact q.2 (iS y (.inl hy))
  have wit : g = true → ∀ x, (x ∈ A ∨ x = v) → tWit E w x := fun hg x hx => by
    rcases g1 hg with ⟨y, t, e1, e2, e3, e4, e5⟩ | e
    · exact tWit.of ((all x y hx e1).tr (tR.st e2 e3)) (a12 t e5).2.2
    · by_cases hne : A = []
      · rcases e hne with e | e
        · exact ⟨v, toV x hx, .inr ⟨v, e, (a2 v (wS v (.inr rfl))).2.1, tR.rf⟩⟩
        · exact ⟨v, toV x hx, .inl e⟩
      · obtain ⟨y, t, e1, e2, e3, e4⟩ := inner hne
        exact ⟨y, all x y hx e1, .inr ⟨t, e3, e4, all t y e2 e1⟩⟩
  refine ⟨fun x hx => a1 x (iB x hx), a2, (List.pairwise_cons.mp (List.pairwise_append.mp a3).2.1).2, hrB, (List.pairwise_cons.mp a5).2, fun p hp x hx => a6 p (List.mem_cons_of_mem _ hp) x (iB x hx), fun x hx => ?_, fun p hp => ?_, fun x hx i t hi ht hwt => ?_, fun x hx => ?_, fun s hs hsB => ?_, fun s hs => ?_⟩
  · obtain ⟨p, p1, p2, p3⟩ := a7 x (iB x hx)
    rcases List.mem_cons.mp p1 with q | q
    · have := hB x hx
      rw [q] at p2
      omega
    · exact ⟨p, q, p2, p3⟩
  · obtain ⟨b1, x, b2, b3, b4⟩ := a8 p (List.mem_cons_of_mem _ hp)
    rw [hlow p hp]
    refine ⟨b1, x, ?_, b3, b4⟩
    rcases dW x b2 with q | q
    · have := oS x q
      have := hr p hp
      omega
    · exact q
  · obtain ⟨c1, c2⟩ := a9 x (iB x hx) i t hi ht hwt
    refine ⟨c1, fun htw p hp => ?_⟩
    obtain ⟨d1, d2, d3⟩ := hp
    rw [hlow p d1]
    refine c2 (iB t htw) p ⟨List.mem_cons_of_mem _ d1, d2, fun p' f1 f2 => ?_⟩
    rcases List.mem_cons.mp f1 with z | z
    · have := hB x hx
      rw [z] at f2
      omega
    · exact d3 p' z f2
  · obtain ⟨b1, b2⟩ := a10 x (iB x hx)
    refine ⟨b1, fun z => b2 (fun z2 => ?_)⟩
    rcases List.mem_cons.mp z2 with z2 | z2
    · exact nSB x hx (.inr z2)
    · exact z z2
  · by_cases hS : s ∈ A ∨ s = v
    · refine ⟨fun t ht hwt => ?_, fun he => ?_, fun t ht hwt hbt => ?_⟩
      · obtain ⟨c1, c2⟩ := edge s t hS ht hwt
        refine ⟨c1, fun z => ?_⟩
        rcases c2 with c2 | c2
        · exact nSB t z c2
        · exact c2 (iB t z)
      · rw [hb s hS]
        have none : ∀ y, tR E w s y → y = s := fun y hy => hy (fun z => z = s) rfl (fun z t hz ht _ => by
          rw [hz, he] at ht
          exact (List.not_mem_nil ht).elim)
        have e1 : v = s := none v (toV s hS)
        refine g3 ?_ (by rw [e1]; exact he)
        refine Classical.byContradiction (fun hne => ?_)
        obtain ⟨y, hy⟩ := List.exists_mem_of_ne_nil A hne
        have e2 := none y (all s y hS (.inl hy))
        have := hA y hy
        rw [e2, e1] at this
        omega
      · rw [hb s hS]
        rcases (edge s t hS ht hwt).2 with c2 | c2
        · rw [← hb t c2]; exact hbt
        · refine g2 s t hS ht hwt c2 ?_
          rw [← hb' t (fun z => c2 (iS t z))]
          exact hbt
    · have hsw : s ∉ A ++ v :: B := fun z => by
        rcases dW s z with q | q
        · exact hS q
        · exact hsB q
      obtain ⟨b1, b2, b3⟩ := a11 s hs hsw
      refine ⟨fun t ht hwt => ?_, fun he => by rw [hb' s hS]; exact b2 he, fun t ht hwt hbt => ?_⟩
      · obtain ⟨c1, c2⟩ := b1 t ht hwt
        exact ⟨c1, fun z => c2 (iB t z)⟩
      · rw [hb' s hS]
        refine b3 t ht hwt ?_
        rw [← hb' t (fun z => (b1 t ht hwt).2 (iS t z))]
        exact hbt
  · by_cases hS : s ∈ A ∨ s = v
    · rw [hb s hS] at hs
      exact ⟨wS s hS, fun z => nSB s z hS, wit hs s hS⟩
    · rw [hb' s hS] at hs
      obtain ⟨b1, b2, b3⟩ := a12 s hs
      exact ⟨b1, fun z => b2 (iB s z), b3⟩
/-- with an empty path nothing waits -/
theorem tInv_end {n : Nat} {E : Nat → List Nat} {w : Nat → Bool} {wait : List Nat} {ord low nx : Nat → Nat} {bad : Nat → Bool} {en : Nat} (h : tInv n E w [] wait ord low nx bad en) : wait = [] := by
  obtain ⟨-, -, -, -, -, -, a7, -⟩ := h
  cases wait with
  | nil => rfl
  | cons x t =>
    obtain ⟨p, p1, -⟩ := a7 x List.mem_cons_self
    exact (List.not_mem_nil p1).elim
end
section
/-! Traps: short methods -/
def xEnt (σ : zS) (s en pl wl : Nat) : zS := zsI (zsF (zsI (zsF (zsI (zsI (zsI (zsI (zsF σ 4 10 21 (nI (en + 1))) 25 s (nI (en + 1))) 26 s (nI (en + 1))) 27 s 0) 28 pl (nI s)) 4 8 21 (nI (pl + 1))) 29 wl (nI s)) 4 9 21 (nI (wl + 1))) 23 s 1
theorem nI_min {a b : Nat} (ha : a < 2 ^ 31) (hb : b < 2 ^ 31) : (if nI b < nI a then nI b else nI a) = nI (min a b) := by
  by_cases h : b < a
  · rw [if_pos (nI_lt h ha), Nat.min_eq_right (by omega)]
  · rw [if_neg (nI_nlt (by omega) hb), Nat.min_eq_left (by omega)]
theorem nI_min' {a b : Nat} (ha : a < 2 ^ 31) (hb : b < 2 ^ 31) : (if nI a < nI b then nI a else nI b) = nI (min a b) := by
  by_cases h : a < b
  · rw [if_pos (nI_lt h hb), Nat.min_eq_left (by omega)]
  · rw [if_neg (nI_nlt (by omega) ha), Nat.min_eq_right (by omega)]
set_option maxHeartbeats 4000000 in
set_option maxRecDepth 100000 in
theorem c_X4_enter {l : Launch} {σ : zS} (h : xSh σ) {s en pl wl : Nat} (hen : zF σ 4 10 21 = nI en) (hpl : zF σ 4 8 21 = nI pl) (hwl : zF σ 4 9 21 = nI wl) (hp : pl < 400) (hw : wl < 400) (hs : s < 400) : zAM l zmX4_enter 0 0 0 0 [.ref 21, .int (nI s)] σ (fun v σ' => v = none ∧ σ' = xEnt σ s en pl wl) := by
  refine zAM.of (by decide +kernel) (Nat.le_of_ble_eq_true rfl) ?_
  refine zw_aload_n dX4_enter_0 rfl ?_
  refine zw_dup dX4_enter_1 rfl ?_
  refine zw_getI dX4_enter_2 zfX4_70 rfl (xk_21 h) (by decide) ?_
  refine zw_iconst (x := 1) dX4_enter_5 rfl ?_
  refine zw_iadd dX4_enter_6 ?_
  refine zw_putI dX4_enter_7 zfX4_70 rfl rfl ⟨rfl, rfl⟩ (xk_21 h) (by decide) ?_
  refine zw_aload_n dX4_enter_10 rfl ?_
  refine zw_getR dX4_enter_11 zfX4_21 rfl (xk_21 h) (by decide) (xg_4_3 h) ?_
  refine zw_iload_n dX4_enter_14 rfl ?_
  refine zw_aload_n dX4_enter_15 rfl ?_
  refine zw_getI dX4_enter_16 zfX4_70 rfl (xk_21 h) (by decide) ?_
  refine zw_iastore dX4_enter_19 (xk_25 h) (by decide) (zin_of (xl_25 h) (vp_in_nI (by omega) (by omega))) ?_
  refine zw_aload_n dX4_enter_20 rfl ?_
  refine zw_getR dX4_enter_21 zfX4_25 rfl (xk_21 h) (by decide) (xg_4_4 h) ?_
  refine zw_iload_n dX4_enter_24 rfl ?_
  refine zw_aload_n dX4_enter_25 rfl ?_
  refine zw_getI dX4_enter_26 zfX4_70 rfl (xk_21 h) (by decide) ?_
  refine zw_iastore dX4_enter_29 (xk_26 h) (by decide) (zin_of (xl_26 h) (vp_in_nI (by omega) (by omega))) ?_
  refine zw_aload_n dX4_enter_30 rfl ?_
  refine zw_getR dX4_enter_31 zfX4_28 rfl (xk_21 h) (by decide) (xg_4_5 h) ?_
  refine zw_iload_n dX4_enter_34 rfl ?_
  refine zw_iconst (x := 0) dX4_enter_35 rfl ?_
  refine zw_iastore dX4_enter_36 (xk_27 h) (by decide) (zin_of (xl_27 h) (vp_in_nI (by omega) (by omega))) ?_
  refine zw_aload_n dX4_enter_37 rfl ?_
  refine zw_getR dX4_enter_38 zfX4_31 rfl (xk_21 h) (by decide) (xg_4_6 h) ?_
  refine zw_aload_n dX4_enter_41 rfl ?_
  refine zw_getI dX4_enter_42 zfX4_64 rfl (xk_21 h) (by decide) ?_
  refine zw_iload_n dX4_enter_45 rfl ?_
  refine zw_iastore dX4_enter_46 (xk_28 h) (by decide) (zin_of (xl_28 h) (by simp only [zF_zsI, zF_zsF, zI_zsF, zI_zsI, reduceIte, and_true, true_and, and_false, false_and, and_self, Nat.reduceEqDiff, hpl]; exact vp_in_nI (by omega) (by omega))) ?_
  refine zw_aload_n dX4_enter_47 rfl ?_
  refine zw_dup dX4_enter_48 rfl ?_
  refine zw_getI dX4_enter_49 zfX4_64 rfl (xk_21 h) (by decide) ?_
  refine zw_iconst (x := 1) dX4_enter_52 rfl ?_
  refine zw_iadd dX4_enter_53 ?_
  refine zw_putI dX4_enter_54 zfX4_64 rfl rfl ⟨rfl, rfl⟩ (xk_21 h) (by decide) ?_
  refine zw_aload_n dX4_enter_57 rfl ?_
  refine zw_getR dX4_enter_58 zfX4_34 rfl (xk_21 h) (by decide) (xg_4_7 h) ?_
  refine zw_aload_n dX4_enter_61 rfl ?_
  refine zw_getI dX4_enter_62 zfX4_67 rfl (xk_21 h) (by decide) ?_
  refine zw_iload_n dX4_enter_65 rfl ?_
  refine zw_iastore dX4_enter_66 (xk_29 h) (by decide) (zin_of (xl_29 h) (by simp only [zF_zsI, zF_zsF, zI_zsF, zI_zsI, reduceIte, and_true, true_and, and_false, false_and, and_self, Nat.reduceEqDiff, hwl]; exact vp_in_nI (by omega) (by omega))) ?_
  refine zw_aload_n dX4_enter_67 rfl ?_
  refine zw_dup dX4_enter_68 rfl ?_
  refine zw_getI dX4_enter_69 zfX4_67 rfl (xk_21 h) (by decide) ?_
  refine zw_iconst (x := 1) dX4_enter_72 rfl ?_
  refine zw_iadd dX4_enter_73 ?_
  refine zw_putI dX4_enter_74 zfX4_67 rfl rfl ⟨rfl, rfl⟩ (xk_21 h) (by decide) ?_
  refine zw_aload_n dX4_enter_77 rfl ?_
  refine zw_getR dX4_enter_78 zfX4_15 rfl (xk_21 h) (by decide) (xg_4_1 h) ?_
  refine zw_iload_n dX4_enter_81 rfl ?_
  refine zw_iconst (x := 1) dX4_enter_82 rfl ?_
  refine zw_bastore dX4_enter_83 (xk_23 h) rfl (zin_of (xl_23 h) (vp_in_nI (by omega) (by omega))) ?_
  refine zw_vret dX4_enter_84 rfl ?_
  refine ⟨rfl, ?_⟩
  simp only [zF_zsI, zF_zsF, zI_zsF, zI_zsI, reduceIte, and_true, true_and, and_false, false_and, and_self, Nat.reduceEqDiff, hen, hpl, hwl, nI_1, nI_clamp (show s < 2 ^ 31 by omega), nI_clamp (show pl < 2 ^ 31 by omega), nI_clamp (show wl < 2 ^ 31 by omega)]
  rfl
set_option maxHeartbeats 4000000 in
set_option maxRecDepth 100000 in
theorem c_X4_follow {l : Launch} {σ : zS} (h : xSh σ) {en pl wl : Nat} (hen : zF σ 4 10 21 = nI en) (hpl : zF σ 4 8 21 = nI pl) (hwl : zF σ 4 9 21 = nI wl) {v t ot lv : Nat} {wt wa : Bool} (hv : v < 400) (ht : t < 400) (hwt : zI σ 22 t = zb wt) (hwa : zI σ 23 t = zb wa) (hot : zI σ 25 t = nI ot) (hlv : zI σ 26 v = nI lv) (ho2 : ot < 2 ^ 31) (hl2 : lv < 2 ^ 31) (hpw : wt = true → ot = 0 → pl < 400 ∧ wl < 400) : zAM l zmX4_follow 1 21 0 0 [.ref 21, .int (nI v), .int (nI t)] σ (fun r σ' => r = none ∧ σ' = (if wt = false then σ else if ot = 0 then xEnt σ t en pl wl else if wa = false then σ else zsI σ 26 v (nI (min lv ot)))) := by
  refine zAM.of (by decide +kernel) (Nat.le_of_ble_eq_true rfl) ?_
  refine zw_aload_n dX4_follow_0 rfl ?_
  refine zw_getR dX4_follow_1 zfX4_9 rfl (xk_21 h) (by decide) (xg_4_0 h) ?_
  refine zw_iload_n dX4_follow_4 rfl ?_
  refine zw_baload dX4_follow_5 (xk_22 h) (zin_of (xl_22 h) (vp_in_nI (by omega) (by omega))) ?_
  refine zw_ifne (tgt := 10) dX4_follow_6 (by decide) (fun c6 => ?_) (fun c6 => ?_)
  · refine zw_aload_n dX4_follow_10 rfl ?_
    refine zw_getR dX4_follow_11 zfX4_21 rfl (xk_21 h) (by decide) (xg_4_3 h) ?_
    refine zw_iload_n dX4_follow_14 rfl ?_
    refine zw_iaload dX4_follow_15 (xk_25 h) (zin_of (xl_25 h) (vp_in_nI (by omega) (by omega))) ?_
    refine zw_ifne (tgt := 27) dX4_follow_16 (by decide) (fun c16 => ?_) (fun c16 => ?_)
    · refine zw_aload_n dX4_follow_27 rfl ?_
      refine zw_getR dX4_follow_28 zfX4_15 rfl (xk_21 h) (by decide) (xg_4_1 h) ?_
      refine zw_iload_n dX4_follow_31 rfl ?_
      refine zw_baload dX4_follow_32 (xk_23 h) (zin_of (xl_23 h) (vp_in_nI (by omega) (by omega))) ?_
      refine zw_ifeq (tgt := 57) dX4_follow_33 (by decide) (fun c33 => ?_) (fun c33 => ?_)
      · refine zw_vret dX4_follow_57 rfl ?_
        refine ⟨rfl, ?_⟩
        rw [nI_clamp (show t < 2 ^ 31 by omega), hwt] at c6
        rw [nI_clamp (show t < 2 ^ 31 by omega), hot] at c16
        rw [nI_clamp (show t < 2 ^ 31 by omega), hwa] at c33
        have b1 : ¬ wt = false := fun e => by rw [zb_1] at c6; rw [e] at c6; exact absurd c6 (by decide)
        rw [if_neg b1]
        have b2 : ¬ ot = 0 := fun e => c16 (by rw [e]; exact nI_0)
        rw [if_neg b2]
        rw [if_pos (zb_0.mp c33)]
      · refine zw_aload_n dX4_follow_36 rfl ?_
        refine zw_getR dX4_follow_37 zfX4_25 rfl (xk_21 h) (by decide) (xg_4_4 h) ?_
        refine zw_iload_n dX4_follow_40 rfl ?_
        refine zw_aload_n dX4_follow_41 rfl ?_
        refine zw_getR dX4_follow_42 zfX4_25 rfl (xk_21 h) (by decide) (xg_4_4 h) ?_
        refine zw_iload_n dX4_follow_45 rfl ?_
        refine zw_iaload dX4_follow_46 (xk_26 h) (zin_of (xl_26 h) (vp_in_nI (by omega) (by omega))) ?_
        refine zw_aload_n dX4_follow_47 rfl ?_
        refine zw_getR dX4_follow_48 zfX4_21 rfl (xk_21 h) (by decide) (xg_4_3 h) ?_
        refine zw_iload_n dX4_follow_51 rfl ?_
        refine zw_iaload dX4_follow_52 (xk_25 h) (zin_of (xl_25 h) (vp_in_nI (by omega) (by omega))) ?_
        refine zw_min dX4_follow_53 zminX4_103 ⟨Nat.le_of_ble_eq_true rfl, Nat.le_of_ble_eq_true rfl⟩ ?_
        refine zw_iastore dX4_follow_56 (xk_26 h) (by decide) (zin_of (xl_26 h) (vp_in_nI (by omega) (by omega))) ?_
        refine zw_vret dX4_follow_57 rfl ?_
        refine ⟨rfl, ?_⟩
        rw [nI_clamp (show t < 2 ^ 31 by omega), hwt] at c6
        rw [nI_clamp (show t < 2 ^ 31 by omega), hot] at c16
        rw [nI_clamp (show t < 2 ^ 31 by omega), hwa] at c33
        have b1 : ¬ wt = false := fun e => by rw [zb_1] at c6; rw [e] at c6; exact absurd c6 (by decide)
        rw [if_neg b1]
        have b2 : ¬ ot = 0 := fun e => c16 (by rw [e]; exact nI_0)
        rw [if_neg b2]
        have b3 : ¬ wa = false := fun e => by rw [zb_1] at c33; rw [e] at c33; exact absurd c33 (by decide)
        rw [if_neg b3]
        simp only [nI_clamp (show v < 2 ^ 31 by omega), nI_clamp (show t < 2 ^ 31 by omega), hlv, hot]
        first | rw [nI_min hl2 ho2] | rw [nI_min' hl2 ho2]
    · obtain ⟨hp, hw⟩ := hpw (zb_1.mp (by have := c6; rw [nI_clamp (show t < 2 ^ 31 by omega), hwt] at this; exact this)) (by
        have := c16
        rw [nI_clamp (show t < 2 ^ 31 by omega), hot, ← nI_0] at this
        exact (nI_eq ho2 (by omega)).mp this)
      refine zw_aload_n dX4_follow_19 rfl ?_
      refine zw_iload_n dX4_follow_20 rfl ?_
      refine zw_callV (y' := zmX4_enter) dX4_follow_21 zlX4_76 zmX4_enter_ok (xk_21 h) (by decide) rfl (c_X4_enter h hen hpl hwl hp hw ht) rfl rfl (Nat.le_of_ble_eq_true rfl) ⟨Nat.le_of_ble_eq_true rfl, Nat.le_of_ble_eq_true rfl⟩ ⟨Nat.le_of_ble_eq_true rfl, Nat.le_of_ble_eq_true rfl⟩ ?_
      intro v21 s21 q21
      obtain ⟨rfl, z21⟩ := q21
      rw [z21]
      clear z21
      refine zw_goto (tgt := 57) dX4_follow_24 (by decide) ?_
      refine zw_vret dX4_follow_57 rfl ?_
      refine ⟨rfl, ?_⟩
      rw [nI_clamp (show t < 2 ^ 31 by omega), hwt] at c6
      rw [nI_clamp (show t < 2 ^ 31 by omega), hot] at c16
      have b1 : ¬ wt = false := fun e => by rw [zb_1] at c6; rw [e] at c6; exact absurd c6 (by decide)
      rw [if_neg b1]
      have b2 : ot = 0 := by
        have := c16
        rw [← nI_0] at this
        exact (nI_eq ho2 (by omega)).mp this
      rw [if_pos b2]
  · refine zw_vret dX4_follow_9 rfl ?_
    refine ⟨rfl, ?_⟩
    rw [nI_clamp (show t < 2 ^ 31 by omega), hwt] at c6
    rw [if_pos (zb_0.mp (c6))]
set_option maxHeartbeats 4000000 in
set_option maxRecDepth 100000 in
theorem c_X4_leave_0 {l : Launch} {σ : zS} (h : xSh σ) {s : Nat} (hpl : zF σ 4 8 21 = nI 1) : zAM l zmX4_leave 1 21 0 0 [.ref 21, .int (nI s)] σ (fun v σ' => v = none ∧ σ' = zsF σ 4 8 21 (nI 0)) := by
  refine zAM.of (by decide +kernel) (Nat.le_of_ble_eq_true rfl) ?_
  refine zw_aload_n dX4_leave_0 rfl ?_
  refine zw_dup dX4_leave_1 rfl ?_
  refine zw_getI dX4_leave_2 zfX4_64 rfl (xk_21 h) (by decide) ?_
  refine zw_iconst (x := 1) dX4_leave_5 rfl ?_
  refine zw_isub dX4_leave_6 ?_
  refine zw_putI dX4_leave_7 zfX4_64 rfl rfl ⟨rfl, rfl⟩ (xk_21 h) (by decide) ?_
  refine zw_aload_n dX4_leave_10 rfl ?_
  refine zw_getI dX4_leave_11 zfX4_64 rfl (xk_21 h) (by decide) ?_
  refine zw_ifle (tgt := 50) dX4_leave_14 (by decide) (fun c14 => ?_) (fun c14 => ?_)
  · refine zw_vret dX4_leave_50 rfl ?_
    refine ⟨rfl, ?_⟩
    rw [hpl, show nI 1 - 1 = nI 0 from nI_pred 0]
  · exfalso
    revert c14
    simp only [zF_zsI, zF_zsF, zI_zsF, zI_zsI, reduceIte, and_true, true_and, and_false, false_and, and_self, Nat.reduceEqDiff, hpl, show nI 1 - 1 = nI 0 from nI_pred 0]
    exact fun q => q (by decide)
set_option maxHeartbeats 4000000 in
set_option maxRecDepth 100000 in
theorem c_X4_leave_1 {l : Launch} {σ : zS} (h : xSh σ) {s q b lb ls : Nat} (hpl : zF σ 4 8 21 = nI (q + 2)) (hq : q < 399) (hs : s < 400) (hb : zI σ 28 q = nI b) (hb4 : b < 400) (hlb : zI σ 26 b = nI lb) (hls : zI σ 26 s = nI ls) (hb2 : lb < 2 ^ 31) (hs2 : ls < 2 ^ 31) : zAM l zmX4_leave 1 21 0 0 [.ref 21, .int (nI s)] σ (fun v σ' => v = none ∧ σ' = zsI (zsF σ 4 8 21 (nI (q + 1))) 26 b (nI (min lb ls))) := by
  refine zAM.of (by decide +kernel) (Nat.le_of_ble_eq_true rfl) ?_
  refine zw_aload_n dX4_leave_0 rfl ?_
  refine zw_dup dX4_leave_1 rfl ?_
  refine zw_getI dX4_leave_2 zfX4_64 rfl (xk_21 h) (by decide) ?_
  refine zw_iconst (x := 1) dX4_leave_5 rfl ?_
  refine zw_isub dX4_leave_6 ?_
  refine zw_putI dX4_leave_7 zfX4_64 rfl rfl ⟨rfl, rfl⟩ (xk_21 h) (by decide) ?_
  refine zw_aload_n dX4_leave_10 rfl ?_
  refine zw_getI dX4_leave_11 zfX4_64 rfl (xk_21 h) (by decide) ?_
  refine zw_ifle (tgt := 50) dX4_leave_14 (by decide) (fun c14 => ?_) (fun c14 => ?_)
  · refine zw_vret dX4_leave_50 rfl ?_
    exfalso
    revert c14
    simp only [zF_zsI, zF_zsF, zI_zsF, zI_zsI, reduceIte, and_true, true_and, and_false, false_and, and_self, Nat.reduceEqDiff, hpl, show nI (q + 2) - 1 = nI (q + 1) from nI_pred _]
    exact nI_nle (by omega) (by omega)
  · refine zw_aload_n dX4_leave_17 rfl ?_
    refine zw_getR dX4_leave_18 zfX4_31 rfl (xk_21 h) (by decide) (xg_4_6 h) ?_
    refine zw_aload_n dX4_leave_21 rfl ?_
    refine zw_getI dX4_leave_22 zfX4_64 rfl (xk_21 h) (by decide) ?_
    refine zw_iconst (x := 1) dX4_leave_25 rfl ?_
    refine zw_isub dX4_leave_26 ?_
    refine zw_iaload dX4_leave_27 (xk_28 h) (zin_of (xl_28 h) (by simp only [zF_zsI, zF_zsF, zI_zsF, zI_zsI, reduceIte, and_true, true_and, and_false, false_and, and_self, Nat.reduceEqDiff, hpl, show nI (q + 2) - 1 = nI (q + 1) from nI_pred _, nI_pred]; exact vp_in_nI (by omega) (by omega))) ?_
    simp only [zF_zsI, zF_zsF, zI_zsF, zI_zsI, reduceIte, and_true, true_and, and_false, false_and, and_self, Nat.reduceEqDiff, hpl, show nI (q + 2) - 1 = nI (q + 1) from nI_pred _, nI_pred, nI_clamp (show q < 2 ^ 31 by omega), hb]
    refine zw_istore_n dX4_leave_28 (by decide) rfl ?_
    refine zw_aload_n dX4_leave_29 rfl ?_
    refine zw_getR dX4_leave_30 zfX4_25 rfl (xk_21 h) (by decide) (xg_4_4 h) ?_
    refine zw_iload_n dX4_leave_33 rfl ?_
    refine zw_aload_n dX4_leave_34 rfl ?_
    refine zw_getR dX4_leave_35 zfX4_25 rfl (xk_21 h) (by decide) (xg_4_4 h) ?_
    refine zw_iload_n dX4_leave_38 rfl ?_
    refine zw_iaload dX4_leave_39 (xk_26 h) (zin_of (xl_26 h) (vp_in_nI (by omega) (by omega))) ?_
    refine zw_aload_n dX4_leave_40 rfl ?_
    refine zw_getR dX4_leave_41 zfX4_25 rfl (xk_21 h) (by decide) (xg_4_4 h) ?_
    refine zw_iload_n dX4_leave_44 rfl ?_
    refine zw_iaload dX4_leave_45 (xk_26 h) (zin_of (xl_26 h) (vp_in_nI (by omega) (by omega))) ?_
    refine zw_min dX4_leave_46 zminX4_103 ⟨Nat.le_of_ble_eq_true rfl, Nat.le_of_ble_eq_true rfl⟩ ?_
    refine zw_iastore dX4_leave_49 (xk_26 h) (by decide) (zin_of (xl_26 h) (vp_in_nI (by omega) (by omega))) ?_
    refine zw_vret dX4_leave_50 rfl ?_
    refine ⟨rfl, ?_⟩
    simp only [zI_zsF, nI_clamp (show b < 2 ^ 31 by omega), nI_clamp (show s < 2 ^ 31 by omega), hlb, hls]
    first | rw [nI_min hb2 hs2] | rw [nI_min' hb2 hs2]
set_option maxHeartbeats 4000000 in
set_option maxRecDepth 100000 in
theorem c_X4_isBadState {l : Launch} {σ : zS} (h : xSh σ) {s : Nat} {b : Bool} (hs : s < 400) (hb : zI σ 24 s = zb b) : zAM l zmX4_isBadState 0 0 0 0 [.ref 21, .int (nI s)] σ (fun v σ' => v = some (.int (zb b)) ∧ σ' = σ) := by
  refine zAM.of (by decide +kernel) (Nat.le_of_ble_eq_true rfl) ?_
  refine zw_aload_n dX4_isBadState_0 rfl ?_
  refine zw_getR dX4_isBadState_1 zfX4_18 rfl (xk_21 h) (by decide) (xg_4_2 h) ?_
  refine zw_iload_n dX4_isBadState_4 rfl ?_
  refine zw_baload dX4_isBadState_5 (xk_24 h) (zin_of (xl_24 h) (vp_in_nI (by omega) (by omega))) ?_
  refine zw_iret dX4_isBadState_6 rfl (by rw [nI_clamp (show s < 2 ^ 31 by omega), hb]; exact znz _) ?_
  rw [nI_clamp (show s < 2 ^ 31 by omega), hb]
  exact ⟨rfl, rfl⟩
end
section
/-! Traps: a state looked at -/
theorem zsF_zsF (σ : zS) (c k a : Nat) (x y : Int32) : zsF (zsF σ c k a x) c k a y = zsF σ c k a y := by
  have h : (fun c' k' a' => if c' = c ∧ k' = k ∧ a' = a then y else zF (zsF σ c k a x) c' k' a') = (fun c' k' a' => if c' = c ∧ k' = k ∧ a' = a then y else zF σ c' k' a') := by
    funext c' k' a'
    by_cases q : c' = c ∧ k' = k ∧ a' = a
    · rw [if_pos q, if_pos q]
    · rw [if_neg q, if_neg q, zF_zsF, if_neg q]
  exact congrArg (fun F => ((zK σ, zL σ, F, zG σ, zI σ, zR σ, zJ σ, zn σ) : zS)) h
theorem zsF_comm (σ : zS) (c k a c2 k2 a2 : Nat) (x y : Int32) (hne : ¬ (c2 = c ∧ k2 = k ∧ a2 = a)) : zsF (zsF σ c k a x) c2 k2 a2 y = zsF (zsF σ c2 k2 a2 y) c k a x := by
  have h : (fun c' k' a' => if c' = c2 ∧ k' = k2 ∧ a' = a2 then y else zF (zsF σ c k a x) c' k' a') = (fun c' k' a' => if c' = c ∧ k' = k ∧ a' = a then x else zF (zsF σ c2 k2 a2 y) c' k' a') := by
    funext c' k' a'
    by_cases q : c' = c2 ∧ k' = k2 ∧ a' = a2
    · rw [if_pos q, if_neg (fun z => hne ⟨q.1.symm.trans z.1, q.2.1.symm.trans z.2.1, q.2.2.symm.trans z.2.2⟩), zF_zsF, if_pos q]
    · rw [if_neg q, zF_zsF, zF_zsF, if_neg q]
  exact congrArg (fun F => ((zK σ, zL σ, F, zG σ, zI σ, zR σ, zJ σ, zn σ) : zS)) h
theorem zsF_self (σ : zS) (c k a : Nat) (x : Int32) (hx : zF σ c k a = x) : zsF σ c k a x = σ := by
  have h : (fun c' k' a' => if c' = c ∧ k' = k ∧ a' = a then x else zF σ c' k' a') = zF σ := by
    funext c' k' a'
    by_cases q : c' = c ∧ k' = k ∧ a' = a
    · rw [if_pos q, q.1, q.2.1, q.2.2, hx]
    · rw [if_neg q]
  exact congrArg (fun F => ((zK σ, zL σ, F, zG σ, zI σ, zR σ, zJ σ, zn σ) : zS)) h
def xLk (σ : zS) (f g : Int32) : zS := zsF (zsF σ 4 13 21 f) 4 14 21 g
theorem xLk_13 (σ : zS) (f g x : Int32) : zsF (xLk σ f g) 4 13 21 x = xLk σ x g := by
  unfold xLk
  rw [zsF_comm _ 4 14 21 4 13 21 g x (by decide), zsF_zsF]
theorem xLk_14 (σ : zS) (f g x : Int32) : zsF (xLk σ f g) 4 14 21 x = xLk σ f x := by
  unfold xLk
  rw [zsF_zsF]
theorem xLk_of (σ : zS) (g x : Int32) (h : zF σ 4 14 21 = g) : zsF σ 4 13 21 x = xLk σ x g := by
  unfold xLk
  rw [zsF_comm σ 4 13 21 4 14 21 x g (by decide), zsF_self σ 4 14 21 g h]
theorem xLk_xLk (σ : zS) (f g f2 g2 : Int32) : xLk (xLk σ f g) f2 g2 = xLk σ f2 g2 := by
  show zsF (zsF (xLk σ f g) 4 13 21 f2) 4 14 21 g2 = _
  rw [xLk_13, xLk_14]
def lkG (w wa bad : Nat → Bool) : Bool → List Nat → Bool
  | g, [] => g
  | g, t :: r => lkG w wa bad (g || (w t && !wa t && bad t)) r
def lkI (w wa : Nat → Bool) : List Nat → Bool
  | [] => false
  | t :: r => (w t && wa t) || lkI w wa r
theorem lkG_iff {w wa bad : Nat → Bool} : ∀ (l : List Nat) (g : Bool), lkG w wa bad g l = true ↔ g = true ∨ ∃ t, t ∈ l ∧ w t = true ∧ wa t = false ∧ bad t = true
  | [], g => by simp [lkG]
  | t :: r, g => by
    rw [lkG, lkG_iff r]
    constructor
    · rintro (h | ⟨t', h1, h2⟩)
      · rcases Bool.or_eq_true _ _ ▸ h with h | h
        · exact .inl h
        · simp only [Bool.and_eq_true, Bool.not_eq_true'] at h
          exact .inr ⟨t, List.mem_cons_self, h.1.1, h.1.2, h.2⟩
      · exact .inr ⟨t', List.mem_cons_of_mem _ h1, h2⟩
    · rintro (h | ⟨t', h1, h2, h3, h4⟩)
      · exact .inl (by rw [h, Bool.true_or])
      · rcases List.mem_cons.mp h1 with q | q
        · exact .inl (by rw [← q, h2, h3, h4]; cases g <;> rfl)
        · exact .inr ⟨t', q, h2, h3, h4⟩
theorem lkI_iff {w wa : Nat → Bool} : ∀ (l : List Nat), lkI w wa l = true ↔ ∃ t, t ∈ l ∧ w t = true ∧ wa t = true
  | [] => by simp [lkI]
  | t :: r => by
    rw [lkI, Bool.or_eq_true, lkI_iff r, Bool.and_eq_true]
    constructor
    · rintro (h | ⟨t', h1, h2⟩)
      · exact ⟨t, List.mem_cons_self, h⟩
      · exact ⟨t', List.mem_cons_of_mem _ h1, h2⟩
    · rintro ⟨t', h1, h2⟩
      rcases List.mem_cons.mp h1 with q | q
      · exact .inl (q ▸ h2)
      · exact .inr ⟨t', q, h2⟩
set_option maxHeartbeats 4000000 in
set_option maxRecDepth 100000 in
theorem lp_lookAt {l : Launch} {σ : zS} (h : xSh σ) {pk n s F L : Nat} {w wa bad : Nat → Bool} (hpk : xPk σ pk) (hn : n ≤ 400) (hs : s < 400) (hF : zI σ 14 s = nI F) (hL : F + L ≤ zL σ pk) (hl : zL σ pk < 2 ^ 31) (hw : ∀ t, t < n → zI σ 22 t = zb (w t) ∧ zI σ 23 t = zb (wa t) ∧ zI σ 24 t = zb (bad t)) {Q : Option Value → zS → Prop} : ∀ (r : List Nat) (i : Nat) (f : Int32) (g : Bool), i + r.length = L → (∀ j t, r[j]? = some t → t < n ∧ xPart (zI σ pk (F + (i + j))) 0 = nI t) → (∀ f', (lkI w wa r = false → f' = f) → Q none (xLk σ f' (zb (lkG w wa bad g r)))) → zAW l zmX4_lookAt { frames := 2, cells := 0, slots := 0, locals := 42 } 25 [(0, .ref 21), (1, .int (nI s)), (2, .ref 8), (3, .int (nI L)), (4, .int (nI i))] [] (xLk σ f (zb g)) 0 0 Q := by
  intro r
  induction r with
  | nil =>
    intro i f g hd hr hQ
    have hd : i = L := hd
    subst hd
    refine zw_iload dX4_lookAt_25 rfl ?_
    refine zw_iload_n dX4_lookAt_27 rfl ?_
    refine zw_icmpge (tgt := 116) dX4_lookAt_28 (by decide) (fun c28 => ?_) (fun c28 => ?_)
    · refine zw_vret dX4_lookAt_116 rfl ?_
      exact hQ f (fun _ => rfl)
    · exact absurd c28 (fun q => q (Int32.le_refl _))
  | cons t r ih =>
    intro i f g hd hr hQ
    rw [List.length_cons] at hd
    obtain ⟨ht, hp⟩ := hr 0 t rfl
    obtain ⟨hw1, hw2, hw3⟩ := hw t ht
    rw [Nat.add_zero] at hp
    have hr' : ∀ j t', r[j]? = some t' → t' < n ∧ xPart (zI σ pk (F + (i + 1 + j))) 0 = nI t' := fun j t' hj => by
      have := hr (j + 1) t' hj
      rw [show i + (j + 1) = i + 1 + j from by omega] at this
      exact this
    refine zw_iload dX4_lookAt_25 rfl ?_
    refine zw_iload_n dX4_lookAt_27 rfl ?_
    refine zw_icmpge (tgt := 116) dX4_lookAt_28 (by decide) (fun c28 => ?_) (fun c28 => ?_)
    · exact absurd c28 (nI_ge (show i < L by omega) (by omega))
    · refine zw_aload_n dX4_lookAt_31 rfl ?_
      refine zw_iload_n dX4_lookAt_32 rfl ?_
      refine zw_iload dX4_lookAt_33 rfl ?_
      refine zw_callV (y' := zmX3_packedStep) dX4_lookAt_35 zlX4_86 zmX3_packedStep_ok (xk_8 h) (by decide) rfl (c_X3_packedStep (σ := xLk σ f (zb g)) (pk := pk) (f := F) (i := i) h hpk hs hF (show F + i < zL σ pk by omega) hl) rfl rfl (Nat.le_of_ble_eq_true rfl) ⟨Nat.le_of_ble_eq_true rfl, Nat.le_of_ble_eq_true rfl⟩ ⟨Nat.le_of_ble_eq_true rfl, Nat.le_of_ble_eq_true rfl⟩ ?_
      intro v35 s35 q35
      obtain ⟨rfl, z35⟩ := q35
      rw [z35]
      clear z35
      refine zw_istore dX4_lookAt_38 (by decide) rfl ?_
      refine zw_iload dX4_lookAt_40 rfl ?_
      refine zw_iconst (x := 0) dX4_lookAt_42 rfl ?_
      refine zw_callS (y' := zmX3_partOf) dX4_lookAt_43 zlX4_90 zmX3_partOf_ok (c_X3_partOf _ _) rfl rfl (Nat.le_of_ble_eq_true rfl) ⟨Nat.le_of_ble_eq_true rfl, Nat.le_of_ble_eq_true rfl⟩ ⟨Nat.le_of_ble_eq_true rfl, Nat.le_of_ble_eq_true rfl⟩ ?_
      intro v43 s43 q43
      obtain ⟨rfl, z43⟩ := q43
      rw [z43]
      clear z43
      rw [show zI (xLk σ f (zb g)) = zI σ from rfl, hp]
      refine zw_istore dX4_lookAt_46 (by decide) rfl ?_
      refine zw_aload_n dX4_lookAt_48 rfl ?_
      refine zw_getR dX4_lookAt_49 zfX4_9 rfl (xk_21 h) (by decide) (xg_4_0 h) ?_
      refine zw_iload dX4_lookAt_52 rfl ?_
      refine zw_baload dX4_lookAt_54 (xk_22 h) (zin_of (xl_22 h) (vp_in_nI (by omega) (by omega))) ?_
      refine zw_ifeq (tgt := 85) dX4_lookAt_55 (by decide) (fun c55 => ?_) (fun c55 => ?_)
      · refine zw_aload_n dX4_lookAt_85 rfl ?_
        refine zw_getR dX4_lookAt_86 zfX4_9 rfl (xk_21 h) (by decide) (xg_4_0 h) ?_
        refine zw_iload dX4_lookAt_89 rfl ?_
        refine zw_baload dX4_lookAt_91 (xk_22 h) (zin_of (xl_22 h) (vp_in_nI (by omega) (by omega))) ?_
        refine zw_ifeq (tgt := 110) dX4_lookAt_92 (by decide) (fun c92 => ?_) (fun c92 => ?_)
        · refine zw_iinc dX4_lookAt_110 rfl (by decide) rfl ?_
          refine zw_goto (tgt := 25) dX4_lookAt_113 (by decide) ?_
          rw [nI_clamp (show t < 2 ^ 31 by omega), show zI (xLk σ f (zb g)) 22 t = _ from hw1] at c55
          replace c55 := zb_0.mp c55
          rw [nI_clamp (show t < 2 ^ 31 by omega), show zI (xLk σ f (zb g)) 22 t = _ from hw1] at c92
          replace c92 := zb_0.mp c92
          simp only [lkI, lkG, c55, Bool.true_and, Bool.false_and, Bool.and_true, Bool.and_false, Bool.or_true, Bool.or_false, Bool.true_or, Bool.false_or, Bool.not_true, Bool.not_false] at hQ
          refine zw_loc (lc' := [(0, .ref 21), (1, .int (nI s)), (2, .ref 8), (3, .int (nI L)), (4, .int (nI i + 1))]) (zsub_cons rfl (zsub_cons rfl (zsub_cons rfl (zsub_cons rfl (zsub_cons rfl zsub_nil))))) ?_
          rw [nI_1]
          exact ih (i + 1) f g (by omega) hr' hQ
        · refine zw_aload_n dX4_lookAt_95 rfl ?_
          refine zw_getR dX4_lookAt_96 zfX4_18 rfl (xk_21 h) (by decide) (xg_4_2 h) ?_
          refine zw_iload dX4_lookAt_99 rfl ?_
          refine zw_baload dX4_lookAt_101 (xk_24 h) (zin_of (xl_24 h) (vp_in_nI (by omega) (by omega))) ?_
          refine zw_ifeq (tgt := 110) dX4_lookAt_102 (by decide) (fun c102 => ?_) (fun c102 => ?_)
          · refine zw_iinc dX4_lookAt_110 rfl (by decide) rfl ?_
            refine zw_goto (tgt := 25) dX4_lookAt_113 (by decide) ?_
            rw [nI_clamp (show t < 2 ^ 31 by omega), show zI (xLk σ f (zb g)) 22 t = _ from hw1] at c55
            replace c55 := zb_0.mp c55
            rw [nI_clamp (show t < 2 ^ 31 by omega), show zI (xLk σ f (zb g)) 22 t = _ from hw1] at c92
            replace c92 := zb_1.mp c92
            rw [c55] at c92
            exact absurd c92 (by decide)
          · refine zw_aload_n dX4_lookAt_105 rfl ?_
            refine zw_iconst (x := 1) dX4_lookAt_106 rfl ?_
            refine zw_putI dX4_lookAt_107 zfX4_111 rfl rfl ⟨rfl, rfl⟩ (xk_21 h) (by decide) ?_
            refine zw_iinc dX4_lookAt_110 rfl (by decide) rfl ?_
            refine zw_goto (tgt := 25) dX4_lookAt_113 (by decide) ?_
            rw [nI_clamp (show t < 2 ^ 31 by omega), show zI (xLk σ f (zb g)) 22 t = _ from hw1] at c55
            replace c55 := zb_0.mp c55
            rw [nI_clamp (show t < 2 ^ 31 by omega), show zI (xLk σ f (zb g)) 22 t = _ from hw1] at c92
            replace c92 := zb_1.mp c92
            rw [c55] at c92
            exact absurd c92 (by decide)
      · refine zw_aload_n dX4_lookAt_58 rfl ?_
        refine zw_getR dX4_lookAt_59 zfX4_15 rfl (xk_21 h) (by decide) (xg_4_1 h) ?_
        refine zw_iload dX4_lookAt_62 rfl ?_
        refine zw_baload dX4_lookAt_64 (xk_23 h) (zin_of (xl_23 h) (vp_in_nI (by omega) (by omega))) ?_
        refine zw_ifeq (tgt := 85) dX4_lookAt_65 (by decide) (fun c65 => ?_) (fun c65 => ?_)
        · refine zw_aload_n dX4_lookAt_85 rfl ?_
          refine zw_getR dX4_lookAt_86 zfX4_9 rfl (xk_21 h) (by decide) (xg_4_0 h) ?_
          refine zw_iload dX4_lookAt_89 rfl ?_
          refine zw_baload dX4_lookAt_91 (xk_22 h) (zin_of (xl_22 h) (vp_in_nI (by omega) (by omega))) ?_
          refine zw_ifeq (tgt := 110) dX4_lookAt_92 (by decide) (fun c92 => ?_) (fun c92 => ?_)
          · refine zw_iinc dX4_lookAt_110 rfl (by decide) rfl ?_
            refine zw_goto (tgt := 25) dX4_lookAt_113 (by decide) ?_
            rw [nI_clamp (show t < 2 ^ 31 by omega), show zI (xLk σ f (zb g)) 22 t = _ from hw1] at c55
            replace c55 := zb_1.mp c55
            rw [nI_clamp (show t < 2 ^ 31 by omega), show zI (xLk σ f (zb g)) 23 t = _ from hw2] at c65
            replace c65 := zb_0.mp c65
            rw [nI_clamp (show t < 2 ^ 31 by omega), show zI (xLk σ f (zb g)) 22 t = _ from hw1] at c92
            replace c92 := zb_0.mp c92
            rw [c55] at c92
            exact absurd c92 (by decide)
          · refine zw_aload_n dX4_lookAt_95 rfl ?_
            refine zw_getR dX4_lookAt_96 zfX4_18 rfl (xk_21 h) (by decide) (xg_4_2 h) ?_
            refine zw_iload dX4_lookAt_99 rfl ?_
            refine zw_baload dX4_lookAt_101 (xk_24 h) (zin_of (xl_24 h) (vp_in_nI (by omega) (by omega))) ?_
            refine zw_ifeq (tgt := 110) dX4_lookAt_102 (by decide) (fun c102 => ?_) (fun c102 => ?_)
            · refine zw_iinc dX4_lookAt_110 rfl (by decide) rfl ?_
              refine zw_goto (tgt := 25) dX4_lookAt_113 (by decide) ?_
              rw [nI_clamp (show t < 2 ^ 31 by omega), show zI (xLk σ f (zb g)) 22 t = _ from hw1] at c55
              replace c55 := zb_1.mp c55
              rw [nI_clamp (show t < 2 ^ 31 by omega), show zI (xLk σ f (zb g)) 23 t = _ from hw2] at c65
              replace c65 := zb_0.mp c65
              rw [nI_clamp (show t < 2 ^ 31 by omega), show zI (xLk σ f (zb g)) 22 t = _ from hw1] at c92
              replace c92 := zb_1.mp c92
              rw [nI_clamp (show t < 2 ^ 31 by omega), show zI (xLk σ f (zb g)) 24 t = _ from hw3] at c102
              replace c102 := zb_0.mp c102
              simp only [lkI, lkG, c55, c65, c102, Bool.true_and, Bool.false_and, Bool.and_true, Bool.and_false, Bool.or_true, Bool.or_false, Bool.true_or, Bool.false_or, Bool.not_true, Bool.not_false] at hQ
              refine zw_loc (lc' := [(0, .ref 21), (1, .int (nI s)), (2, .ref 8), (3, .int (nI L)), (4, .int (nI i + 1))]) (zsub_cons rfl (zsub_cons rfl (zsub_cons rfl (zsub_cons rfl (zsub_cons rfl zsub_nil))))) ?_
              rw [nI_1]
              exact ih (i + 1) f g (by omega) hr' hQ
            · refine zw_aload_n dX4_lookAt_105 rfl ?_
              refine zw_iconst (x := 1) dX4_lookAt_106 rfl ?_
              refine zw_putI dX4_lookAt_107 zfX4_111 rfl rfl ⟨rfl, rfl⟩ (xk_21 h) (by decide) ?_
              refine zw_iinc dX4_lookAt_110 rfl (by decide) rfl ?_
              refine zw_goto (tgt := 25) dX4_lookAt_113 (by decide) ?_
              rw [nI_clamp (show t < 2 ^ 31 by omega), show zI (xLk σ f (zb g)) 22 t = _ from hw1] at c55
              replace c55 := zb_1.mp c55
              rw [nI_clamp (show t < 2 ^ 31 by omega), show zI (xLk σ f (zb g)) 23 t = _ from hw2] at c65
              replace c65 := zb_0.mp c65
              rw [nI_clamp (show t < 2 ^ 31 by omega), show zI (xLk σ f (zb g)) 22 t = _ from hw1] at c92
              replace c92 := zb_1.mp c92
              rw [nI_clamp (show t < 2 ^ 31 by omega), show zI (xLk σ f (zb g)) 24 t = _ from hw3] at c102
              replace c102 := zb_1.mp c102
              simp only [lkI, lkG, c55, c65, c102, Bool.true_and, Bool.false_and, Bool.and_true, Bool.and_false, Bool.or_true, Bool.or_false, Bool.true_or, Bool.false_or, Bool.not_true, Bool.not_false] at hQ
              refine zw_loc (lc' := [(0, .ref 21), (1, .int (nI s)), (2, .ref 8), (3, .int (nI L)), (4, .int (nI i + 1))]) (zsub_cons rfl (zsub_cons rfl (zsub_cons rfl (zsub_cons rfl (zsub_cons rfl zsub_nil))))) ?_
              rw [nI_1]
              rw [xLk_14]
              exact ih (i + 1) f true (by omega) hr' hQ
        · refine zw_aload_n dX4_lookAt_68 rfl ?_
          refine zw_dup dX4_lookAt_69 rfl ?_
          refine zw_getI dX4_lookAt_70 zfX4_108 rfl (xk_21 h) (by decide) ?_
          refine zw_iload dX4_lookAt_73 rfl ?_
          refine zw_callS (y' := zmX3_takersOf) dX4_lookAt_75 zlX4_122 zmX3_takersOf_ok (c_X3_takersOf _) rfl rfl (Nat.le_of_ble_eq_true rfl) ⟨Nat.le_of_ble_eq_true rfl, Nat.le_of_ble_eq_true rfl⟩ ⟨Nat.le_of_ble_eq_true rfl, Nat.le_of_ble_eq_true rfl⟩ ?_
          intro v75 s75 q75
          obtain ⟨rfl, z75⟩ := q75
          rw [z75]
          clear z75
          refine zw_ior dX4_lookAt_78 ?_
          refine zw_putI dX4_lookAt_79 zfX4_108 rfl rfl ⟨rfl, rfl⟩ (xk_21 h) (by decide) ?_
          refine zw_goto (tgt := 110) dX4_lookAt_82 (by decide) ?_
          refine zw_iinc dX4_lookAt_110 rfl (by decide) rfl ?_
          refine zw_goto (tgt := 25) dX4_lookAt_113 (by decide) ?_
          rw [nI_clamp (show t < 2 ^ 31 by omega), show zI (xLk σ f (zb g)) 22 t = _ from hw1] at c55
          replace c55 := zb_1.mp c55
          rw [nI_clamp (show t < 2 ^ 31 by omega), show zI (xLk σ f (zb g)) 23 t = _ from hw2] at c65
          replace c65 := zb_1.mp c65
          simp only [lkI, lkG, c55, c65, Bool.true_and, Bool.false_and, Bool.and_true, Bool.and_false, Bool.or_true, Bool.or_false, Bool.true_or, Bool.false_or, Bool.not_true, Bool.not_false] at hQ
          refine zw_loc (lc' := [(0, .ref 21), (1, .int (nI s)), (2, .ref 8), (3, .int (nI L)), (4, .int (nI i + 1))]) (zsub_cons rfl (zsub_cons rfl (zsub_cons rfl (zsub_cons rfl (zsub_cons rfl zsub_nil))))) ?_
          rw [nI_1]
          rw [xLk_13]
          exact ih (i + 1) _ g (by omega) hr' (fun f' _ => hQ f' (fun q => absurd q (by decide)))
set_option maxHeartbeats 4000000 in
set_option maxRecDepth 100000 in
theorem c_X4_lookAt {l : Launch} {σ : zS} (h : xSh σ) {pk n s F L : Nat} {w wa bad : Nat → Bool} (hpk : xPk σ pk) (hn : n ≤ 400) (hs : s < 400) (hF : zI σ 14 s = nI F) (hL : F + L ≤ zL σ pk) (hl : zL σ pk < 2 ^ 31) (hw : ∀ t, t < n → zI σ 22 t = zb (w t) ∧ zI σ 23 t = zb (wa t) ∧ zI σ 24 t = zb (bad t)) {E : List Nat} {f : Int32} {g : Bool} (hf : zF σ 4 13 21 = f) (hg : zF σ 4 14 21 = zb g) (hE : E.length = L) (hF2 : zI σ 14 (s + 1) = nI (F + L)) (hr : ∀ j t, E[j]? = some t → t < n ∧ xPart (zI σ pk (F + j)) 0 = nI t) : zAM l zmX4_lookAt 2 42 0 0 [.ref 21, .int (nI s), .ref 8] σ (fun v σ' => v = none ∧ ∃ f', (lkI w wa E = false → f' = f ||| (zI σ 13 s ^^^ -1)) ∧ σ' = xLk σ f' (zb (lkG w wa bad g E))) := by
  refine zAM.of (by decide +kernel) (Nat.le_of_ble_eq_true rfl) ?_
  refine zw_aload_n dX4_lookAt_0 rfl ?_
  refine zw_dup dX4_lookAt_1 rfl ?_
  refine zw_getI dX4_lookAt_2 zfX4_108 rfl (xk_21 h) (by decide) ?_
  refine zw_aload_n dX4_lookAt_5 rfl ?_
  refine zw_iload_n dX4_lookAt_6 rfl ?_
  refine zw_callV (y' := zmX3_takersIn) dX4_lookAt_7 zlX4_119 zmX3_takersIn_ok (xk_8 h) (by decide) rfl (c_X3_takersIn h hs) rfl rfl (Nat.le_of_ble_eq_true rfl) ⟨Nat.le_of_ble_eq_true rfl, Nat.le_of_ble_eq_true rfl⟩ ⟨Nat.le_of_ble_eq_true rfl, Nat.le_of_ble_eq_true rfl⟩ ?_
  intro v7 s7 q7
  obtain ⟨rfl, z7⟩ := q7
  rw [z7]
  clear z7
  refine zw_iconst (x := -1) dX4_lookAt_10 rfl ?_
  refine zw_ixor dX4_lookAt_11 ?_
  refine zw_ior dX4_lookAt_12 ?_
  refine zw_putI dX4_lookAt_13 zfX4_108 rfl rfl ⟨rfl, rfl⟩ (xk_21 h) (by decide) ?_
  rw [xLk_of σ (zb g) _ hg, hf]
  refine zw_aload_n dX4_lookAt_16 rfl ?_
  refine zw_iload_n dX4_lookAt_17 rfl ?_
  refine zw_callV (y' := zmX3_stepsOf) dX4_lookAt_18 zlX4_83 zmX3_stepsOf_ok (xk_8 h) (by decide) rfl (c_X3_stepsOf (σ := xLk σ _ _) h hs) rfl rfl (Nat.le_of_ble_eq_true rfl) ⟨Nat.le_of_ble_eq_true rfl, Nat.le_of_ble_eq_true rfl⟩ ⟨Nat.le_of_ble_eq_true rfl, Nat.le_of_ble_eq_true rfl⟩ ?_
  intro v18 s18 q18
  obtain ⟨rfl, z18⟩ := q18
  rw [z18]
  clear z18
  rw [show zI (xLk σ (f ||| (zI σ 13 s ^^^ -1)) (zb g)) = zI σ from rfl, hF2, hF, show nI (F + L) - nI F = nI L from by rw [Nat.add_comm, ← nI_add]; exact Int32.add_sub_cancel _ _]
  refine zw_istore_n dX4_lookAt_21 (by decide) rfl ?_
  refine zw_iconst (x := 0) dX4_lookAt_22 rfl ?_
  refine zw_istore dX4_lookAt_23 (by decide) rfl ?_
  refine zw_loc (lc' := [(0, .ref 21), (1, .int (nI s)), (2, .ref 8), (3, .int (nI L)), (4, .int (nI 0))]) (zsub_cons rfl (zsub_cons rfl (zsub_cons rfl (zsub_cons rfl (zsub_cons rfl zsub_nil))))) ?_
  exact lp_lookAt h hpk hn hs hF hL hl hw E 0 _ g (by omega) (fun j t q => by rw [Nat.zero_add]; exact hr j t q) (fun f' q => ⟨rfl, f', q, rfl⟩)
end
section
/-! Traps: a set closed -/
theorem zAW_hp {l : Launch} {y : zM} {R : Room} {pc : Nat} {lc : List (Nat × Value)} {st : List Value} {σ σ' : zS} {uc us : Nat} {Q : Option Value → zS → Prop} (e : σ = σ') (h : zAW l y R pc lc st σ' uc us Q) : zAW l y R pc lc st σ uc us Q := e ▸ h
theorem nI_dec (n : Nat) : nI (n + 1) + Int32.ofInt (-1) = nI n := by
  rw [← nI_pred n, Int32.sub_eq_add_neg]
  rfl
theorem i32_not_and {x e : Int32} (h : (0 ||| (x ^^^ -1)) &&& e = e) : x &&& e = 0 := by
  apply Int32.toBitVec_inj.mp
  have h2 := congrArg Int32.toBitVec h
  simp only [Int32.toBitVec_and, Int32.toBitVec_or, Int32.toBitVec_xor] at h2 ⊢
  refine BitVec.eq_of_getLsbD_eq (fun i hi => ?_)
  have h3 := congrArg (fun b : BitVec 32 => b.getLsbD i) h2
  simp only [BitVec.getLsbD_and, BitVec.getLsbD_or, BitVec.getLsbD_xor, show (-1 : Int32).toBitVec = BitVec.allOnes 32 from rfl, show (0 : Int32).toBitVec = 0#32 from rfl, BitVec.getLsbD_allOnes, BitVec.getLsbD_zero, hi, decide_true] at h3 ⊢
  revert h3
  cases x.toBitVec.getLsbD i <;> cases e.toBitVec.getLsbD i <;> decide
theorem i32_all_and (e : Int32) : (0 ||| ((0 : Int32) ^^^ -1)) &&& e = e := by
  rw [show (0 ||| ((0 : Int32) ^^^ -1)) = -1 from by decide]
  exact Int32.neg_one_and
/-- the graph of the states as the rows tell it: the steps of s begin at fs s -/
def xGr (σ : zS) (pk n T : Nat) (fs : Nat → Nat) (E : Nat → List Nat) : Prop :=
  xPk σ pk ∧ n ≤ 400 ∧ T ≤ zL σ pk ∧ zL σ pk < 2 ^ 31 ∧ (∀ s, s ≤ n → zI σ 14 s = nI (fs s)) ∧ (∀ s, s < n → fs (s + 1) = fs s + (E s).length) ∧ (∀ s, s ≤ n → fs s ≤ T) ∧
  (∀ s, s < n → ∀ j t, (E s)[j]? = some t → t < n ∧ xPart (zI σ pk (fs s + j)) 0 = nI t)
def xMrk (σ : zS) (g : Int32) : List Nat → zS
  | [] => σ
  | x :: r => zsI (zsI (xMrk σ g r) 23 x 0) 24 x g
theorem xMrk_I {σ : zS} {g : Int32} : ∀ (l : List Nat) {a : Nat}, a ≠ 23 → a ≠ 24 → zI (xMrk σ g l) a = zI σ a
  | [], _, _, _ => rfl
  | x :: r, a, h1, h2 => by
    funext j
    rw [xMrk, zI_zsI, if_neg (fun q => h2 q.1), zI_zsI, if_neg (fun q => h1 q.1), xMrk_I r h1 h2]
theorem xMrk_F {σ : zS} {g : Int32} : ∀ (l : List Nat), zF (xMrk σ g l) = zF σ
  | [] => rfl
  | x :: r => by rw [xMrk, zF_zsI, zF_zsI, xMrk_F r]
theorem xMrk_G {σ : zS} {g : Int32} : ∀ (l : List Nat), zG (xMrk σ g l) = zG σ
  | [] => rfl
  | x :: r => by rw [xMrk, zG_zsI, zG_zsI, xMrk_G r]
theorem xMrk_K {σ : zS} {g : Int32} : ∀ (l : List Nat), zK (xMrk σ g l) = zK σ
  | [] => rfl
  | x :: r => by rw [xMrk, zK_zsI, zK_zsI, xMrk_K r]
theorem xMrk_L {σ : zS} {g : Int32} : ∀ (l : List Nat), zL (xMrk σ g l) = zL σ
  | [] => rfl
  | x :: r => by rw [xMrk, zL_zsI, zL_zsI, xMrk_L r]
theorem xMrk_n {σ : zS} {g : Int32} : ∀ (l : List Nat), zn (xMrk σ g l) = zn σ
  | [] => rfl
  | x :: r => by rw [xMrk, zn_zsI, zn_zsI, xMrk_n r]
theorem xMrk_23 {σ : zS} {g : Int32} : ∀ (l : List Nat) (j : Nat), zI (xMrk σ g l) 23 j = if j ∈ l then 0 else zI σ 23 j
  | [], j => by rw [if_neg List.not_mem_nil]; rfl
  | x :: r, j => by
    rw [xMrk, zI_zsI, if_neg (fun q => absurd q.1 (by decide)), zI_zsI]
    by_cases q : j = x
    · rw [if_pos ⟨rfl, q⟩, if_pos (by rw [q]; exact List.mem_cons_self)]
    · rw [if_neg (fun z => q z.2), xMrk_23 r j]
      by_cases q2 : j ∈ r
      · rw [if_pos q2, if_pos (List.mem_cons_of_mem _ q2)]
      · rw [if_neg q2, if_neg (fun z => (List.mem_cons.mp z).elim q q2)]
theorem xMrk_24 {σ : zS} {g : Int32} : ∀ (l : List Nat) (j : Nat), zI (xMrk σ g l) 24 j = if j ∈ l then g else zI σ 24 j
  | [], j => by rw [if_neg List.not_mem_nil]; rfl
  | x :: r, j => by
    rw [xMrk, zI_zsI]
    by_cases q : j = x
    · rw [if_pos ⟨rfl, q⟩, if_pos (by rw [q]; exact List.mem_cons_self)]
    · rw [if_neg (fun z => q z.2), zI_zsI, if_neg (fun q => absurd q.1 (by decide)), xMrk_24 r j]
      by_cases q2 : j ∈ r
      · rw [if_pos q2, if_pos (List.mem_cons_of_mem _ q2)]
      · rw [if_neg q2, if_neg (fun z => (List.mem_cons.mp z).elim q q2)]
theorem xMrk_sh {σ : zS} {g : Int32} (l : List Nat) (h : xSh σ) : xSh (xMrk σ g l) :=
  xSh.mono h (fun _ _ => by rw [xMrk_K]) (fun _ _ => by rw [xMrk_L]) (fun _ _ _ _ _ => by rw [xMrk_G])
set_option maxHeartbeats 4000000 in
set_option maxRecDepth 100000 in
theorem lp_down_end {l : Launch} {σ : zS} {v b : Nat} {ev : Int32} {Q : Option Value → zS → Prop} (hQ : zAW l zmX4_close { frames := 3, cells := 0, slots := 0, locals := 68 } 65 [(0, .ref 21), (1, .int (nI v)), (2, .ref 8), (3, .int ev), (4, .int (nI b))] [] σ 0 0 Q) : zAW l zmX4_close { frames := 3, cells := 0, slots := 0, locals := 68 } 19 [(0, .ref 21), (1, .int (nI v)), (2, .ref 8), (3, .int ev), (4, .int (nI b)), (5, .int 1)] [] σ 0 0 Q := by
  refine zw_iload dX4_close_19 rfl ?_
  refine zw_ifle (tgt := 65) dX4_close_21 (by decide) (fun c21 => ?_) (fun c21 => ?_)
  · exact zw_loc (zsub_cons rfl (zsub_cons rfl (zsub_cons rfl (zsub_cons rfl (zsub_cons rfl zsub_nil))))) hQ
  · refine zw_iload dX4_close_24 rfl ?_
    refine zw_ifne (tgt := 65) dX4_close_26 (by decide) (fun c26 => ?_) (fun c26 => ?_)
    · exact zw_loc (zsub_cons rfl (zsub_cons rfl (zsub_cons rfl (zsub_cons rfl (zsub_cons rfl zsub_nil))))) hQ
    · exact absurd c26 (by decide)
set_option maxHeartbeats 4000000 in
set_option maxRecDepth 100000 in
theorem lp_down {l : Launch} {σ : zS} (h : xSh σ) {pk n T v : Nat} {fs : Nat → Nat} {E : Nat → List Nat} {w wa bad : Nat → Bool} {A B : List Nat} {ev : Int32} (hgr : xGr σ pk n T fs E) (hw : ∀ t, t < n → zI σ 22 t = zb (w t) ∧ zI σ 23 t = zb (wa t) ∧ zI σ 24 t = zb (bad t)) (hst : ∀ R x, (x :: R) <:+ A ++ v :: B → zI σ 29 R.length = nI x) (hlt : ∀ x, x ∈ A ++ v :: B → x < n) (hlen : (A ++ v :: B).length ≤ n) (hv : v ∉ A) {Q : Option Value → zS → Prop} (hQ : ∀ f' g', (A = [] → lkI w wa (E v) = false → f' = 0 ||| (zI σ 13 v ^^^ -1)) → (g' = true ↔ ∃ x, (x ∈ A ∨ x = v) ∧ ∃ t, t ∈ E x ∧ w t = true ∧ wa t = false ∧ bad t = true) → zAW l zmX4_close { frames := 3, cells := 0, slots := 0, locals := 68 } 65 [(0, .ref 21), (1, .int (nI v)), (2, .ref 8), (3, .int ev), (4, .int (nI B.length))] [] (xLk σ f' (zb g')) 0 0 Q) : ∀ (A' D : List Nat) (f : Int32) (g : Bool), A = D ++ A' → (A = [] → f = 0) → (g = true ↔ ∃ x, x ∈ D ∧ ∃ t, t ∈ E x ∧ w t = true ∧ wa t = false ∧ bad t = true) → zAW l zmX4_close { frames := 3, cells := 0, slots := 0, locals := 68 } 19 [(0, .ref 21), (1, .int (nI v)), (2, .ref 8), (3, .int ev), (4, .int (nI (A' ++ v :: B).length)), (5, .int 0)] [] (xLk σ f (zb g)) 0 0 Q := by
  obtain ⟨g1, g2, g3, g4, g5, g6, g7, g8⟩ := id hgr
  have lk : ∀ {x : Nat} {f : Int32} {g : Bool}, x < n → zAM l zmX4_lookAt 2 42 0 0 [.ref 21, .int (nI x), .ref 8] (xLk σ f (zb g)) (fun v σ' => v = none ∧ ∃ f', (lkI w wa (E x) = false → f' = f ||| (zI σ 13 x ^^^ -1)) ∧ σ' = xLk σ f' (zb (lkG w wa bad g (E x)))) := by
    intro x f g hx
    have e6 := g6 x hx
    have e7 := g7 (x + 1) hx
    have := c_X4_lookAt (l := l) (σ := xLk σ f (zb g)) (s := x) (f := f) (g := g) (w := w) (wa := wa) (bad := bad) (E := E x) h g1 g2 (by omega) (g5 x (by omega)) (show fs x + (E x).length ≤ zL σ pk by omega) g4 hw rfl rfl rfl ((g5 (x + 1) hx).trans (congrArg nI e6)) (g8 x hx)
    simp only [xLk_xLk] at this
    exact this
  intro A'
  induction A' with
  | nil =>
    intro D f g hD hf hg
    rw [List.append_nil] at hD
    have hx : v < n := hlt v (List.mem_append_right _ List.mem_cons_self)
    have hsx : zI σ 29 B.length = nI v := hst B v ⟨A, rfl⟩
    have hle : B.length < n := by
      have := hlen
      rw [List.length_append, List.length_cons] at this
      omega
    rw [List.nil_append, List.length_cons]
    refine zw_iload dX4_close_19 rfl ?_
    refine zw_ifle (tgt := 65) dX4_close_21 (by decide) (fun c21 => ?_) (fun c21 => ?_)
    · exact absurd c21 (nI_nle (by omega) (by omega))
    · refine zw_iload dX4_close_24 rfl ?_
      refine zw_ifne (tgt := 65) dX4_close_26 (by decide) (fun c26 => ?_) (fun c26 => ?_)
      · exact absurd rfl c26
      · refine zw_iinc dX4_close_29 rfl (by decide) rfl ?_
        rw [nI_dec]
        refine zw_aload_n dX4_close_32 rfl ?_
        refine zw_aload_n dX4_close_33 rfl ?_
        refine zw_getR dX4_close_34 zfX4_34 rfl (xk_21 h) (by decide) (xg_4_7 h) ?_
        refine zw_iload dX4_close_37 rfl ?_
        refine zw_iaload dX4_close_39 (xk_29 h) (zin_of (xl_29 h) (vp_in_nI (by omega) (by omega))) ?_
        rw [show zI (xLk σ f (zb g)) 29 = zI σ 29 from rfl, nI_clamp (show B.length < 2 ^ 31 by omega), hsx]
        refine zw_aload_n dX4_close_40 rfl ?_
        refine zw_callV (y' := zmX4_lookAt) dX4_close_41 zlX4_115 zmX4_lookAt_ok (xk_21 h) (by decide) rfl (lk hx) rfl rfl (Nat.le_of_ble_eq_true rfl) ⟨Nat.le_of_ble_eq_true rfl, Nat.le_of_ble_eq_true rfl⟩ ⟨Nat.le_of_ble_eq_true rfl, Nat.le_of_ble_eq_true rfl⟩ ?_
        intro v41 s41 q41
        obtain ⟨rfl, f1, hf1, z41⟩ := q41
        rw [z41]
        clear z41
        refine zw_aload_n dX4_close_44 rfl ?_
        refine zw_getR dX4_close_45 zfX4_34 rfl (xk_21 h) (by decide) (xg_4_7 h) ?_
        refine zw_iload dX4_close_48 rfl ?_
        refine zw_iaload dX4_close_50 (xk_29 h) (zin_of (xl_29 h) (vp_in_nI (by omega) (by omega))) ?_
        rw [show zI (xLk σ f1 (zb (lkG w wa bad g (E v)))) 29 = zI σ 29 from rfl, nI_clamp (show B.length < 2 ^ 31 by omega), hsx]
        refine zw_iload_n dX4_close_51 rfl ?_
        refine zw_icmpne (tgt := 59) dX4_close_52 (by decide) (fun c52 => ?_) (fun c52 => ?_)
        · refine zw_iconst (x := 0) dX4_close_59 rfl ?_
          refine zw_istore dX4_close_60 (by decide) rfl ?_
          refine zw_goto (tgt := 19) dX4_close_62 (by decide) ?_
          exact absurd rfl c52
        · refine zw_iconst (x := 1) dX4_close_55 rfl ?_
          refine zw_goto (tgt := 60) dX4_close_56 (by decide) ?_
          refine zw_istore dX4_close_60 (by decide) rfl ?_
          refine zw_goto (tgt := 19) dX4_close_62 (by decide) ?_
          refine zw_loc (lc' := [(0, .ref 21), (1, .int (nI v)), (2, .ref 8), (3, .int ev), (4, .int (nI B.length)), (5, .int 1)]) (zsub_cons rfl (zsub_cons rfl (zsub_cons rfl (zsub_cons rfl (zsub_cons rfl (zsub_cons rfl zsub_nil)))))) (lp_down_end (hQ f1 (lkG w wa bad g (E v)) (fun q1 q2 => by rw [← hf q1]; exact hf1 q2) ?_))
          rw [lkG_iff, hg, ← hD]
          constructor
          · rintro (⟨y, y1, y2⟩ | y)
            · exact ⟨y, .inl y1, y2⟩
            · exact ⟨v, .inr rfl, y⟩
          · rintro ⟨y, y1 | rfl, y2⟩
            · exact .inl ⟨y, y1, y2⟩
            · exact .inr y2
  | cons x A' ih =>
    intro D f g hD hf hg
    have hxA : x ∈ A := by rw [hD]; exact List.mem_append_right _ List.mem_cons_self
    have hxv : ¬ x = v := fun e => hv (e ▸ hxA)
    have hne : A ≠ [] := fun e => by rw [e] at hxA; exact List.not_mem_nil hxA
    have hx : x < n := hlt x (List.mem_append_left _ hxA)
    have hvn : v < n := hlt v (List.mem_append_right _ List.mem_cons_self)
    have hsx : zI σ 29 (A' ++ v :: B).length = nI x := hst (A' ++ v :: B) x ⟨D, by rw [hD, List.append_assoc]; rfl⟩
    have hle : (A' ++ v :: B).length < n := by
      have := hlen
      rw [hD, List.append_assoc, List.length_append, List.cons_append, List.length_cons] at this
      omega
    rw [List.cons_append, List.length_cons]
    refine zw_iload dX4_close_19 rfl ?_
    refine zw_ifle (tgt := 65) dX4_close_21 (by decide) (fun c21 => ?_) (fun c21 => ?_)
    · exact absurd c21 (nI_nle (by omega) (by omega))
    · refine zw_iload dX4_close_24 rfl ?_
      refine zw_ifne (tgt := 65) dX4_close_26 (by decide) (fun c26 => ?_) (fun c26 => ?_)
      · exact absurd rfl c26
      · refine zw_iinc dX4_close_29 rfl (by decide) rfl ?_
        rw [nI_dec]
        refine zw_aload_n dX4_close_32 rfl ?_
        refine zw_aload_n dX4_close_33 rfl ?_
        refine zw_getR dX4_close_34 zfX4_34 rfl (xk_21 h) (by decide) (xg_4_7 h) ?_
        refine zw_iload dX4_close_37 rfl ?_
        refine zw_iaload dX4_close_39 (xk_29 h) (zin_of (xl_29 h) (vp_in_nI (by omega) (by omega))) ?_
        rw [show zI (xLk σ f (zb g)) 29 = zI σ 29 from rfl, nI_clamp (show (A' ++ v :: B).length < 2 ^ 31 by omega), hsx]
        refine zw_aload_n dX4_close_40 rfl ?_
        refine zw_callV (y' := zmX4_lookAt) dX4_close_41 zlX4_115 zmX4_lookAt_ok (xk_21 h) (by decide) rfl (lk hx) rfl rfl (Nat.le_of_ble_eq_true rfl) ⟨Nat.le_of_ble_eq_true rfl, Nat.le_of_ble_eq_true rfl⟩ ⟨Nat.le_of_ble_eq_true rfl, Nat.le_of_ble_eq_true rfl⟩ ?_
        intro v41 s41 q41
        obtain ⟨rfl, f1, hf1, z41⟩ := q41
        rw [z41]
        clear z41
        refine zw_aload_n dX4_close_44 rfl ?_
        refine zw_getR dX4_close_45 zfX4_34 rfl (xk_21 h) (by decide) (xg_4_7 h) ?_
        refine zw_iload dX4_close_48 rfl ?_
        refine zw_iaload dX4_close_50 (xk_29 h) (zin_of (xl_29 h) (vp_in_nI (by omega) (by omega))) ?_
        rw [show zI (xLk σ f1 (zb (lkG w wa bad g (E x)))) 29 = zI σ 29 from rfl, nI_clamp (show (A' ++ v :: B).length < 2 ^ 31 by omega), hsx]
        refine zw_iload_n dX4_close_51 rfl ?_
        refine zw_icmpne (tgt := 59) dX4_close_52 (by decide) (fun c52 => ?_) (fun c52 => ?_)
        · refine zw_iconst (x := 0) dX4_close_59 rfl ?_
          refine zw_istore dX4_close_60 (by decide) rfl ?_
          refine zw_goto (tgt := 19) dX4_close_62 (by decide) ?_
          refine zw_loc (lc' := [(0, .ref 21), (1, .int (nI v)), (2, .ref 8), (3, .int ev), (4, .int (nI (A' ++ v :: B).length)), (5, .int 0)]) (zsub_cons rfl (zsub_cons rfl (zsub_cons rfl (zsub_cons rfl (zsub_cons rfl (zsub_cons rfl zsub_nil)))))) (ih (D ++ [x]) f1 (lkG w wa bad g (E x)) (by rw [hD, List.append_assoc]; rfl) (fun q => absurd q hne) ?_)
          rw [lkG_iff, hg]
          constructor
          · rintro (⟨y, y1, y2⟩ | y)
            · exact ⟨y, List.mem_append_left _ y1, y2⟩
            · exact ⟨x, List.mem_append_right _ List.mem_cons_self, y⟩
          · rintro ⟨y, y1, y2⟩
            rcases List.mem_append.mp y1 with y1 | y1
            · exact .inl ⟨y, y1, y2⟩
            · rw [List.mem_singleton.mp y1] at y2
              exact .inr y2
        · refine zw_iconst (x := 1) dX4_close_55 rfl ?_
          refine zw_goto (tgt := 60) dX4_close_56 (by decide) ?_
          refine zw_istore dX4_close_60 (by decide) rfl ?_
          refine zw_goto (tgt := 19) dX4_close_62 (by decide) ?_
          exact absurd ((nI_eq (by omega) (by omega)).mp c52) hxv
set_option maxHeartbeats 4000000 in
set_option maxRecDepth 100000 in
theorem lp_mark {l : Launch} {σ : zS} {n b : Nat} {tp g : Bool} {wait B : List Nat} (h : xSh σ) (hwl : zF σ 4 9 21 = nI wait.length) (hg : zF σ 4 14 21 = zb g) (hlen : wait.length ≤ n) (hn : n ≤ 400) (hst : ∀ R x, (x :: R) <:+ wait → zI σ 29 R.length = nI x) (hlt : ∀ x, x ∈ wait → x < n) {Q : Option Value → zS → Prop} : ∀ (P R : List Nat), wait = P.reverse ++ (R ++ B) → Q none (zsF (xMrk σ (zb (tp || g)) (P.reverse ++ R)) 4 9 21 (nI b)) → zAW l zmX4_close { frames := 3, cells := 0, slots := 0, locals := 68 } 107 [(0, .ref 21), (4, .int (nI b)), (6, .int (zb tp)), (7, .int (nI (R ++ B).length))] [] (xMrk σ (zb (tp || g)) R) 0 0 Q := by
  intro P
  induction P with
  | nil =>
    intro R hP hQ
    have e : (R ++ B).length = wait.length := by rw [hP]; rfl
    have hs := xMrk_sh (g := zb (tp || g)) R h
    refine zw_iload dX4_close_107 rfl ?_
    refine zw_aload_n dX4_close_109 rfl ?_
    refine zw_getI dX4_close_110 zfX4_67 rfl (xk_21 hs) (by decide) ?_
    refine zw_icmpge (tgt := 164) dX4_close_113 (by decide) (fun c113 => ?_) (fun c113 => ?_)
    · refine zw_aload_n dX4_close_164 rfl ?_
      refine zw_iload dX4_close_165 rfl ?_
      refine zw_putI dX4_close_167 zfX4_67 rfl rfl ⟨rfl, rfl⟩ (xk_21 hs) (by decide) ?_
      refine zw_vret dX4_close_170 rfl ?_
      exact hQ
    · rw [xMrk_F, hwl, e] at c113
      exact absurd c113 (fun q => q (Int32.le_refl _))
  | cons x P ih =>
    intro R hP hQ
    have hs := xMrk_sh (g := zb (tp || g)) R h
    rw [List.reverse_cons, List.append_assoc] at hP
    have hx := hlt x (by rw [hP]; exact List.mem_append_right _ (List.mem_append_left _ List.mem_cons_self))
    have hsx : zI σ 29 (R ++ B).length = nI x := hst (R ++ B) x ⟨P.reverse, by rw [hP]; rfl⟩
    have hle : (R ++ B).length < wait.length := by
      simp only [hP, List.length_append, List.length_singleton]
      omega
    rw [List.reverse_cons, List.append_assoc] at hQ
    refine zw_iload dX4_close_107 rfl ?_
    refine zw_aload_n dX4_close_109 rfl ?_
    refine zw_getI dX4_close_110 zfX4_67 rfl (xk_21 hs) (by decide) ?_
    refine zw_icmpge (tgt := 164) dX4_close_113 (by decide) (fun c113 => ?_) (fun c113 => ?_)
    · rw [xMrk_F, hwl] at c113
      exact absurd c113 (nI_ge hle (by omega))
    · refine zw_aload_n dX4_close_116 rfl ?_
      refine zw_getR dX4_close_117 zfX4_15 rfl (xk_21 hs) (by decide) (xg_4_1 hs) ?_
      refine zw_aload_n dX4_close_120 rfl ?_
      refine zw_getR dX4_close_121 zfX4_34 rfl (xk_21 hs) (by decide) (xg_4_7 hs) ?_
      refine zw_iload dX4_close_124 rfl ?_
      refine zw_iaload dX4_close_126 (xk_29 hs) (zin_of (xl_29 hs) (vp_in_nI (by omega) (by omega))) ?_
      rw [xMrk_I R (by decide) (by decide), nI_clamp (show (R ++ B).length < 2 ^ 31 by omega), hsx]
      refine zw_iconst (x := 0) dX4_close_127 rfl ?_
      refine zw_bastore dX4_close_128 (xk_23 hs) rfl (zin_of (xl_23 hs) (vp_in_nI (by omega) (by omega))) ?_
      refine zw_aload_n dX4_close_129 rfl ?_
      refine zw_getR dX4_close_130 zfX4_18 rfl (xk_21 hs) (by decide) (xg_4_2 hs) ?_
      refine zw_aload_n dX4_close_133 rfl ?_
      refine zw_getR dX4_close_134 zfX4_34 rfl (xk_21 hs) (by decide) (xg_4_7 hs) ?_
      refine zw_iload dX4_close_137 rfl ?_
      refine zw_iaload dX4_close_139 (xk_29 hs) (zin_of (xl_29 hs) (vp_in_nI (by omega) (by omega))) ?_
      rw [zI_zsI, if_neg (fun q => absurd q.1 (by decide)), xMrk_I R (by decide) (by decide), nI_clamp (show (R ++ B).length < 2 ^ 31 by omega), hsx]
      refine zw_iload dX4_close_140 rfl ?_
      refine zw_ifne (tgt := 152) dX4_close_142 (by decide) (fun c142 => ?_) (fun c142 => ?_)
      · refine zw_iconst (x := 1) dX4_close_152 rfl ?_
        refine zw_goto (tgt := 157) dX4_close_153 (by decide) ?_
        refine zw_bastore dX4_close_157 (xk_24 hs) rfl (zin_of (xl_24 hs) (vp_in_nI (by omega) (by omega))) ?_
        refine zw_iinc dX4_close_158 rfl (by decide) rfl ?_
        refine zw_goto (tgt := 107) dX4_close_161 (by decide) ?_
        replace c142 := zb_1.mp c142
        have e : (1 : Int32) = zb (tp || g) := by rw [c142]; rfl
        refine zw_loc (lc' := [(0, .ref 21), (4, .int (nI b)), (6, .int (zb tp)), (7, .int (nI (R ++ B).length + 1))]) (zsub_cons rfl (zsub_cons rfl (zsub_cons rfl (zsub_cons rfl zsub_nil)))) ?_
        rw [nI_1, nI_clamp (show x < 2 ^ 31 by omega)]
        exact zAW_hp (congrArg (zsI (zsI (xMrk σ (zb (tp || g)) R) 23 x 0) 24 x) e) (ih (x :: R) hP hQ)
      · refine zw_aload_n dX4_close_145 rfl ?_
        refine zw_getI dX4_close_146 zfX4_111 rfl (xk_21 hs) (by decide) ?_
        refine zw_ifeq (tgt := 156) dX4_close_149 (by decide) (fun c149 => ?_) (fun c149 => ?_)
        · refine zw_iconst (x := 0) dX4_close_156 rfl ?_
          refine zw_bastore dX4_close_157 (xk_24 hs) rfl (zin_of (xl_24 hs) (vp_in_nI (by omega) (by omega))) ?_
          refine zw_iinc dX4_close_158 rfl (by decide) rfl ?_
          refine zw_goto (tgt := 107) dX4_close_161 (by decide) ?_
          replace c142 := zb_0.mp c142
          replace c149 := zb_0.mp (show zb g = 0 by rw [← hg]; rw [zF_zsI, xMrk_F] at c149; exact c149)
          have e : (0 : Int32) = zb (tp || g) := by rw [c142, c149]; rfl
          refine zw_loc (lc' := [(0, .ref 21), (4, .int (nI b)), (6, .int (zb tp)), (7, .int (nI (R ++ B).length + 1))]) (zsub_cons rfl (zsub_cons rfl (zsub_cons rfl (zsub_cons rfl zsub_nil)))) ?_
          rw [nI_1, nI_clamp (show x < 2 ^ 31 by omega)]
          exact zAW_hp (congrArg (zsI (zsI (xMrk σ (zb (tp || g)) R) 23 x 0) 24 x) e) (ih (x :: R) hP hQ)
        · refine zw_iconst (x := 1) dX4_close_152 rfl ?_
          refine zw_goto (tgt := 157) dX4_close_153 (by decide) ?_
          refine zw_bastore dX4_close_157 (xk_24 hs) rfl (zin_of (xl_24 hs) (vp_in_nI (by omega) (by omega))) ?_
          refine zw_iinc dX4_close_158 rfl (by decide) rfl ?_
          refine zw_goto (tgt := 107) dX4_close_161 (by decide) ?_
          replace c142 := zb_0.mp c142
          replace c149 := zb_1.mp (show ¬ zb g = 0 by rw [← hg]; rw [zF_zsI, xMrk_F] at c149; exact c149)
          have e : (1 : Int32) = zb (tp || g) := by rw [c142, c149]; rfl
          refine zw_loc (lc' := [(0, .ref 21), (4, .int (nI b)), (6, .int (zb tp)), (7, .int (nI (R ++ B).length + 1))]) (zsub_cons rfl (zsub_cons rfl (zsub_cons rfl (zsub_cons rfl zsub_nil)))) ?_
          rw [nI_1, nI_clamp (show x < 2 ^ 31 by omega)]
          exact zAW_hp (congrArg (zsI (zsI (xMrk σ (zb (tp || g)) R) 23 x 0) 24 x) e) (ih (x :: R) hP hQ)
set_option maxHeartbeats 4000000 in
set_option maxRecDepth 100000 in
theorem lp_close_end {l : Launch} {σ : zS} (h : xSh σ) {pk n T v : Nat} {fs : Nat → Nat} {E : Nat → List Nat} {w wa bad : Nat → Bool} {A B : List Nat} {ev : Int32} (hgr : xGr σ pk n T fs E) (hw : ∀ t, t < n → zI σ 22 t = zb (w t) ∧ zI σ 23 t = zb (wa t) ∧ zI σ 24 t = zb (bad t)) (hst : ∀ R x, (x :: R) <:+ A ++ v :: B → zI σ 29 R.length = nI x) (hlt : ∀ x, x ∈ A ++ v :: B → x < n) (hlen : (A ++ v :: B).length ≤ n) (hwl : zF σ 4 9 21 = nI (A ++ v :: B).length) {f : Int32} {g : Bool} (q1 : A = [] → lkI w wa (E v) = false → f = 0 ||| (zI σ 13 v ^^^ -1)) (q2 : g = true ↔ ∃ x, (x ∈ A ∨ x = v) ∧ ∃ t, t ∈ E x ∧ w t = true ∧ wa t = false ∧ bad t = true) : zAW l zmX4_close { frames := 3, cells := 0, slots := 0, locals := 68 } 65 [(0, .ref 21), (1, .int (nI v)), (2, .ref 8), (3, .int ev), (4, .int (nI B.length))] [] (xLk σ f (zb g)) 0 0 (fun r σ' => r = none ∧ ∃ f g tp y, (g = true ↔ ∃ x, (x ∈ A ∨ x = v) ∧ ∃ t, t ∈ E x ∧ w t = true ∧ wa t = false ∧ bad t = true) ∧ (tp = true → A = [] → lkI w wa (E v) = true ∨ zI σ 13 v &&& ev = 0) ∧ (A = [] → lkI w wa (E v) = false → zI σ 13 v = 0 → tp = true) ∧ σ' = zsF (xMrk (zsF (xLk σ f (zb g)) 4 12 21 y) (zb (tp || g)) (A ++ [v])) 4 9 21 (nI B.length)) := by
  have g2 : n ≤ 400 := hgr.2.1
  have hP : A ++ v :: B = ((A ++ [v]).reverse).reverse ++ ([] ++ B) := by rw [List.reverse_reverse, List.append_assoc]; rfl
  refine zw_aload_n dX4_close_65 rfl ?_
  refine zw_getI dX4_close_66 zfX4_108 rfl (xk_21 h) (by decide) ?_
  refine zw_iload_n dX4_close_69 rfl ?_
  refine zw_iand dX4_close_70 ?_
  refine zw_iload_n dX4_close_71 rfl ?_
  refine zw_icmpne (tgt := 79) dX4_close_72 (by decide) (fun c72 => ?_) (fun c72 => ?_)
  · refine zw_iconst (x := 0) dX4_close_79 rfl ?_
    refine zw_istore dX4_close_80 (by decide) rfl ?_
    refine zw_iload dX4_close_82 rfl ?_
    refine zw_ifeq (tgt := 103) dX4_close_84 (by decide) (fun c84 => ?_) (fun c84 => ?_)
    · refine zw_iload dX4_close_103 rfl ?_
      refine zw_istore dX4_close_105 (by decide) rfl ?_
      refine zAW_hp (zsF_self (xLk σ f (zb g)) 4 12 21 _ rfl).symm ?_
      refine zw_loc (lc' := [(0, .ref 21), (4, .int (nI B.length)), (6, .int (zb false)), (7, .int (nI ([] ++ B).length))]) (zsub_cons rfl (zsub_cons rfl (zsub_cons rfl (zsub_cons rfl zsub_nil)))) (lp_mark (σ := zsF (xLk σ f (zb g)) 4 12 21 (zF (xLk σ f (zb g)) 4 12 21)) (n := n) (tp := false) (g := g) (wait := A ++ v :: B) h hwl rfl hlen g2 hst hlt ((A ++ [v]).reverse) [] hP ?_)
      rw [List.reverse_reverse, List.append_nil]
      exact ⟨rfl, f, g, false, _, q2, fun q => absurd q (by decide), fun hA hl htk => absurd (show f &&& ev = ev by rw [q1 hA hl, htk]; exact i32_all_and ev) c72, rfl⟩
    · refine zw_aload_n dX4_close_87 rfl ?_
      refine zw_dup dX4_close_88 rfl ?_
      refine zw_getI dX4_close_89 zfX4_73 rfl (xk_21 h) (by decide) ?_
      refine zw_aload_n dX4_close_92 rfl ?_
      refine zw_getI dX4_close_93 zfX4_67 rfl (xk_21 h) (by decide) ?_
      refine zw_iload dX4_close_96 rfl ?_
      refine zw_isub dX4_close_98 ?_
      refine zw_iadd dX4_close_99 ?_
      refine zw_putI dX4_close_100 zfX4_73 rfl rfl ⟨rfl, rfl⟩ (xk_21 h) (by decide) ?_
      refine zw_iload dX4_close_103 rfl ?_
      refine zw_istore dX4_close_105 (by decide) rfl ?_
      exact absurd rfl c84
  · refine zw_iconst (x := 1) dX4_close_75 rfl ?_
    refine zw_goto (tgt := 80) dX4_close_76 (by decide) ?_
    refine zw_istore dX4_close_80 (by decide) rfl ?_
    refine zw_iload dX4_close_82 rfl ?_
    refine zw_ifeq (tgt := 103) dX4_close_84 (by decide) (fun c84 => ?_) (fun c84 => ?_)
    · refine zw_iload dX4_close_103 rfl ?_
      refine zw_istore dX4_close_105 (by decide) rfl ?_
      exact absurd c84 (by decide)
    · refine zw_aload_n dX4_close_87 rfl ?_
      refine zw_dup dX4_close_88 rfl ?_
      refine zw_getI dX4_close_89 zfX4_73 rfl (xk_21 h) (by decide) ?_
      refine zw_aload_n dX4_close_92 rfl ?_
      refine zw_getI dX4_close_93 zfX4_67 rfl (xk_21 h) (by decide) ?_
      refine zw_iload dX4_close_96 rfl ?_
      refine zw_isub dX4_close_98 ?_
      refine zw_iadd dX4_close_99 ?_
      refine zw_putI dX4_close_100 zfX4_73 rfl rfl ⟨rfl, rfl⟩ (xk_21 h) (by decide) ?_
      refine zw_iload dX4_close_103 rfl ?_
      refine zw_istore dX4_close_105 (by decide) rfl ?_
      refine zw_loc (lc' := [(0, .ref 21), (4, .int (nI B.length)), (6, .int (zb true)), (7, .int (nI ([] ++ B).length))]) (zsub_cons rfl (zsub_cons rfl (zsub_cons rfl (zsub_cons rfl zsub_nil)))) (lp_mark (σ := zsF (xLk σ f (zb g)) 4 12 21 (zF (xLk σ f (zb g)) 4 12 21 + (zF (xLk σ f (zb g)) 4 9 21 - nI B.length))) (n := n) (tp := true) (g := g) (wait := A ++ v :: B) h hwl rfl hlen g2 hst hlt ((A ++ [v]).reverse) [] hP ?_)
      rw [List.reverse_reverse, List.append_nil]
      exact ⟨rfl, f, g, true, _, q2, fun _ hA => by
          cases hl : lkI w wa (E v) with
          | true => exact Or.inl rfl
          | false =>
            refine Or.inr (i32_not_and ?_)
            rw [← q1 hA hl]
            exact c72, fun _ _ _ => rfl, rfl⟩
set_option maxHeartbeats 4000000 in
set_option maxRecDepth 100000 in
theorem c_X4_close {l : Launch} {σ : zS} (h : xSh σ) {pk n T v : Nat} {fs : Nat → Nat} {E : Nat → List Nat} {w wa bad : Nat → Bool} {A B : List Nat} {ev : Int32} (hgr : xGr σ pk n T fs E) (hw : ∀ t, t < n → zI σ 22 t = zb (w t) ∧ zI σ 23 t = zb (wa t) ∧ zI σ 24 t = zb (bad t)) (hst : ∀ R x, (x :: R) <:+ A ++ v :: B → zI σ 29 R.length = nI x) (hlt : ∀ x, x ∈ A ++ v :: B → x < n) (hlen : (A ++ v :: B).length ≤ n) (hv : v ∉ A) (hwl : zF σ 4 9 21 = nI (A ++ v :: B).length) : zAM l zmX4_close 3 68 0 0 [.ref 21, .int (nI v), .ref 8, .int ev] σ (fun r σ' => r = none ∧ ∃ f g tp y, (g = true ↔ ∃ x, (x ∈ A ∨ x = v) ∧ ∃ t, t ∈ E x ∧ w t = true ∧ wa t = false ∧ bad t = true) ∧ (tp = true → A = [] → lkI w wa (E v) = true ∨ zI σ 13 v &&& ev = 0) ∧ (A = [] → lkI w wa (E v) = false → zI σ 13 v = 0 → tp = true) ∧ σ' = zsF (xMrk (zsF (xLk σ f (zb g)) 4 12 21 y) (zb (tp || g)) (A ++ [v])) 4 9 21 (nI B.length)) := by
  refine zAM.of (by decide +kernel) (Nat.le_of_ble_eq_true rfl) ?_
  obtain ⟨g1, g2, g3, g4, g5, g6, g7, g8⟩ := id hgr
  refine zw_aload_n dX4_close_0 rfl ?_
  refine zw_iconst (x := 0) dX4_close_1 rfl ?_
  refine zw_putI dX4_close_2 zfX4_108 rfl rfl ⟨rfl, rfl⟩ (xk_21 h) (by decide) ?_
  refine zw_aload_n dX4_close_5 rfl ?_
  refine zw_iconst (x := 0) dX4_close_6 rfl ?_
  refine zw_putI dX4_close_7 zfX4_111 rfl rfl ⟨rfl, rfl⟩ (xk_21 h) (by decide) ?_
  rw [show zsF (zsF σ 4 13 21 0) 4 14 21 0 = xLk σ 0 (zb false) from rfl]
  refine zw_aload_n dX4_close_10 rfl ?_
  refine zw_getI dX4_close_11 zfX4_67 rfl (xk_21 h) (by decide) ?_
  rw [show zF (xLk σ 0 (zb false)) 4 9 21 = zF σ 4 9 21 from rfl, hwl]
  refine zw_istore dX4_close_14 (by decide) rfl ?_
  refine zw_iconst (x := 0) dX4_close_16 rfl ?_
  refine zw_istore dX4_close_17 (by decide) rfl ?_
  refine zw_loc (lc' := [(0, .ref 21), (1, .int (nI v)), (2, .ref 8), (3, .int ev), (4, .int (nI (A ++ v :: B).length)), (5, .int 0)]) (zsub_cons rfl (zsub_cons rfl (zsub_cons rfl (zsub_cons rfl (zsub_cons rfl (zsub_cons rfl zsub_nil)))))) (lp_down h hgr hw hst hlt hlen hv ?_ A [] 0 false rfl (fun _ => rfl) ⟨fun q => absurd q (by decide), fun ⟨_, q, _⟩ => absurd q List.not_mem_nil⟩)
  intro f g q1 q2
  exact lp_close_end h hgr hw hst hlt hlen hwl q1 q2
end
section
/-! the turns of a walk: how many are entered, how many steps are used -/
def tSum (f : Nat → Nat) : List Nat → Nat
  | [] => 0
  | x :: r => f x + tSum f r
theorem tSum_erase {f : Nat → Nat} {x : Nat} : ∀ (l : List Nat), x ∈ l → tSum f l = f x + tSum f (l.erase x)
  | [], h => (List.not_mem_nil h).elim
  | y :: r, h => by
    by_cases q : y = x
    · rw [q, List.erase_cons_head]; rfl
    · rw [List.erase_cons_tail (by simpa using q)]
      have h2 : x ∈ r := by
        rcases List.mem_cons.mp h with z | z
        · exact absurd z.symm q
        · exact z
      show f y + tSum f r = f x + (f y + tSum f (r.erase x))
      rw [tSum_erase r h2]
      omega
theorem tSum_congr {f g : Nat → Nat} : ∀ (l : List Nat), (∀ x, x ∈ l → f x = g x) → tSum f l = tSum g l
  | [], _ => rfl
  | y :: r, h => by
    show f y + tSum f r = g y + tSum g r
    rw [h y List.mem_cons_self, tSum_congr r (fun x hx => h x (List.mem_cons_of_mem _ hx))]
theorem tSum_le {f g : Nat → Nat} : ∀ (l : List Nat), (∀ x, x ∈ l → f x ≤ g x) → tSum f l ≤ tSum g l
  | [], _ => Nat.le_refl _
  | y :: r, h => Nat.add_le_add (h y List.mem_cons_self) (tSum_le r (fun x hx => h x (List.mem_cons_of_mem _ hx)))
theorem nd_erase {n : Nat} {l : List Nat} (hn : l.Nodup) (hl : ∀ x, x ∈ l → x < n + 1) : (l.erase n).Nodup ∧ ∀ x, x ∈ l.erase n → x < n := by
  refine ⟨hn.erase n, fun x hx => ?_⟩
  have h1 := hl x (List.mem_of_mem_erase hx)
  have h2 : x ≠ n := (hn.mem_erase_iff.mp hx).1
  omega
theorem nd_len : ∀ (n : Nat) (l : List Nat), l.Nodup → (∀ x, x ∈ l → x < n) → l.length ≤ n
  | 0, l, _, hl => by
    cases l with
    | nil => exact Nat.le_refl _
    | cons x r => exact absurd (hl x List.mem_cons_self) (by omega)
  | n + 1, l, hn, hl => by
    obtain ⟨h1, h2⟩ := nd_erase hn hl
    have h3 := nd_len n _ h1 h2
    by_cases q : n ∈ l
    · rw [List.length_erase_of_mem q] at h3
      omega
    · rw [List.erase_of_not_mem q] at h3
      omega
theorem nd_sum {fs len : Nat → Nat} : ∀ (n : Nat) (l : List Nat), l.Nodup → (∀ x, x ∈ l → x < n) → (∀ s, s < n → fs (s + 1) = fs s + len s) → tSum len l + fs 0 ≤ fs n
  | 0, l, _, hl, _ => by
    cases l with
    | nil => exact Nat.le_of_eq (Nat.zero_add _)
    | cons x r => exact absurd (hl x List.mem_cons_self) (by omega)
  | n + 1, l, hn, hl, hf => by
    obtain ⟨h1, h2⟩ := nd_erase hn hl
    have h3 := nd_sum n _ h1 h2 (fun s hs => hf s (by omega))
    have h4 := hf n (by omega)
    by_cases q : n ∈ l
    · rw [tSum_erase l q]
      omega
    · rw [List.erase_of_not_mem q] at h3
      omega
/-- the states entered are those of ent, lf of them left; each turn has used a step or left a state -/
def tEx (n : Nat) (E : Nat → List Nat) (ord nx : Nat → Nat) (path : List Nat) (en turn : Nat) : Prop :=
  ∃ ent : List Nat, ∃ lf, ent.Nodup ∧ (∀ s, s ∈ ent ↔ ord s ≠ 0) ∧ (∀ s, s ∈ ent → s < n) ∧ ent.length = en ∧ lf + path.length = en ∧ (∀ s, s ∈ ent → nx s ≤ (E s).length) ∧ turn ≤ tSum nx ent + lf
theorem tEx_en {n : Nat} {E : Nat → List Nat} {ord nx : Nat → Nat} {path : List Nat} {en turn : Nat} (h : tEx n E ord nx path en turn) : en ≤ n := by
  obtain ⟨ent, lf, h1, h2, h3, h4, h5, h6, h7⟩ := h
  rw [← h4]
  exact nd_len n ent h1 h3
theorem tEx_turn {n T : Nat} {E : Nat → List Nat} {ord nx : Nat → Nat} {path : List Nat} {en turn : Nat} {fs : Nat → Nat} (h : tEx n E ord nx path en turn) (hp : path ≠ []) (hf : ∀ s, s < n → fs (s + 1) = fs s + (E s).length) (hT : fs n ≤ T) : turn < T + n := by
  have hen := tEx_en h
  obtain ⟨ent, lf, h1, h2, h3, h4, h5, h6, h7⟩ := h
  have a := tSum_le ent h6
  have b := nd_sum (len := fun s => (E s).length) n ent h1 h3 hf
  have c : path.length ≠ 0 := fun e => hp (List.length_eq_zero_iff.mp e)
  omega
theorem tEx_0 {n : Nat} {E : Nat → List Nat} {ord nx : Nat → Nat} (h : ∀ s, ord s = 0) : tEx n E ord nx [] 0 0 :=
  ⟨[], 0, List.nodup_nil, fun s => ⟨fun q => (List.not_mem_nil q).elim, fun q => absurd (h s) q⟩, fun _ q => (List.not_mem_nil q).elim, rfl, rfl, fun _ q => (List.not_mem_nil q).elim, Nat.zero_le _⟩
theorem tEx_turn0 {n : Nat} {E : Nat → List Nat} {ord nx : Nat → Nat} {path : List Nat} {en turn : Nat} (h : tEx n E ord nx path en turn) : tEx n E ord nx path en 0 := by
  obtain ⟨ent, lf, h1, h2, h3, h4, h5, h6, h7⟩ := h
  exact ⟨ent, lf, h1, h2, h3, h4, h5, h6, Nat.zero_le _⟩
/-- a state entered, at the walk's start -/
theorem tEx_enter0 {n : Nat} {E : Nat → List Nat} {ord nx : Nat → Nat} {path : List Nat} {en turn s : Nat} (h : tEx n E ord nx path en turn) (h0 : ord s = 0) (hs : s < n) (x : Nat) (hx : x ≠ 0) : tEx n E (tU ord s x) (tU nx s 0) (s :: path) (en + 1) turn := by
  obtain ⟨ent, lf, h1, h2, h3, h4, h5, h6, h7⟩ := h
  have hns : s ∉ ent := fun q => (h2 s).mp q h0
  refine ⟨s :: ent, lf, List.nodup_cons.mpr ⟨hns, h1⟩, fun y => ?_, fun y hy => ?_, by rw [List.length_cons, h4], by rw [List.length_cons, ← h5]; omega, fun y hy => ?_, ?_⟩
  · by_cases q : y = s
    · rw [q, tU_s]
      exact ⟨fun _ => hx, fun _ => List.mem_cons_self⟩
    · rw [tU_n q, ← h2 y]
      exact ⟨fun z => (List.mem_cons.mp z).elim (fun z => absurd z q) id, List.mem_cons_of_mem _⟩
  · rcases List.mem_cons.mp hy with q | q
    · rw [q]; exact hs
    · exact h3 y q
  · rcases List.mem_cons.mp hy with q | q
    · rw [q, tU_s]; exact Nat.zero_le _
    · have e : y ≠ s := fun e => by rw [e] at q; exact hns q
      rw [tU_n e]
      exact h6 y q
  · show turn ≤ tU nx s 0 s + tSum (tU nx s 0) ent + lf
    have e : tSum (tU nx s 0) ent = tSum nx ent := tSum_congr ent (fun y hy => tU_n (fun e => by rw [e] at hy; exact hns hy))
    rw [tU_s, e]
    omega
/-- a step used -/
theorem tEx_step {n : Nat} {E : Nat → List Nat} {ord nx : Nat → Nat} {path : List Nat} {en turn v : Nat} (h : tEx n E ord nx path en turn) (hv : ord v ≠ 0) (hn : nx v < (E v).length) : tEx n E ord (tU nx v (nx v + 1)) path en (turn + 1) := by
  obtain ⟨ent, lf, h1, h2, h3, h4, h5, h6, h7⟩ := h
  have hve := (h2 v).mpr hv
  refine ⟨ent, lf, h1, h2, h3, h4, h5, fun y hy => ?_, ?_⟩
  · by_cases q : y = v
    · rw [q, tU_s]; omega
    · rw [tU_n q]; exact h6 y hy
  · rw [tSum_erase ent hve, tU_s, tSum_congr (ent.erase v) (g := nx) (fun y hy => tU_n (h1.mem_erase_iff.mp hy).1)]
    rw [tSum_erase ent hve] at h7
    omega
/-- a state left -/
theorem tEx_leave {n : Nat} {E : Nat → List Nat} {ord nx : Nat → Nat} {path : List Nat} {en turn v : Nat} (h : tEx n E ord nx (v :: path) en turn) : tEx n E ord nx path en (turn + 1) := by
  obtain ⟨ent, lf, h1, h2, h3, h4, h5, h6, h7⟩ := h
  rw [List.length_cons] at h5
  exact ⟨ent, lf + 1, h1, h2, h3, h4, by omega, h6, by omega⟩
end
section
/-! the walk's numbers as the heap tells them -/
/-- what the walk leaves alone -/
def xTf (σ0 σ : zS) : Prop := zn σ = zn σ0 ∧ zK σ = zK σ0 ∧ zL σ = zL σ0 ∧ zG σ = zG σ0 ∧ zR σ = zR σ0 ∧ zJ σ = zJ σ0 ∧ (∀ c k a, c ≠ 4 → zF σ c k a = zF σ0 c k a) ∧ (∀ a, ¬ (22 ≤ a ∧ a ≤ 29) → zI σ a = zI σ0 a) ∧ zI σ 22 = zI σ0 22 ∧ zF σ 4 11 21 = zF σ0 4 11 21
theorem xTf.rf (σ : zS) : xTf σ σ := ⟨rfl, rfl, rfl, rfl, rfl, rfl, fun _ _ _ _ => rfl, fun _ _ => rfl, rfl, rfl⟩
theorem xTf.tr {σ0 σ σ' : zS} (h : xTf σ0 σ) (h' : xTf σ σ') : xTf σ0 σ' := by
  obtain ⟨a1, a2, a3, a4, a5, a6, a7, a8, a9, a10⟩ := h
  obtain ⟨b1, b2, b3, b4, b5, b6, b7, b8, b9, b10⟩ := h'
  exact ⟨b1.trans a1, b2.trans a2, b3.trans a3, b4.trans a4, b5.trans a5, b6.trans a6, fun c k a q => (b7 c k a q).trans (a7 c k a q), fun a q => (b8 a q).trans (a8 a q), b9.trans a9, b10.trans a10⟩
theorem xTf.I {σ0 σ : zS} {a i : Nat} {x : Int32} (h : xTf σ0 σ) (h1 : 23 ≤ a) (h2 : a ≤ 29) : xTf σ0 (zsI σ a i x) := by
  refine h.tr ⟨rfl, rfl, rfl, rfl, rfl, rfl, fun _ _ _ _ => rfl, fun b hb => funext fun j => ?_, funext fun j => ?_, rfl⟩
  · rw [zI_zsI, if_neg (fun q => hb (by rw [q.1]; exact ⟨by omega, h2⟩))]
  · rw [zI_zsI, if_neg (fun q => by have := q.1; omega)]
theorem xTf.F {σ0 σ : zS} {k a : Nat} {x : Int32} (h : xTf σ0 σ) (h1 : k ≠ 11) : xTf σ0 (zsF σ 4 k a x) := by
  refine h.tr ⟨rfl, rfl, rfl, rfl, rfl, rfl, fun c k' a' hc => ?_, fun _ _ => rfl, rfl, ?_⟩
  · rw [zF_zsF, if_neg (fun q => hc q.1)]
  · rw [zF_zsF, if_neg (fun q => h1 q.2.1.symm)]
theorem xTf.Mrk {σ0 σ : zS} {g : Int32} (h : xTf σ0 σ) : ∀ l : List Nat, xTf σ0 (xMrk σ g l)
  | [] => h
  | x :: r => ((h.Mrk r).I (by decide) (by decide)).I (by decide) (by decide)
theorem xTf.sh {σ0 σ : zS} (h : xTf σ0 σ) (hs : xSh σ0) : xSh σ := by
  refine ⟨fun q hq => ?_, fun q hq => ?_, fun q hq => ?_⟩
  · rw [h.2.1]; exact hs.1 q hq
  · rw [h.2.2.1]; exact hs.2.1 q hq
  · rw [h.2.2.2.1]; exact hs.2.2 q hq
theorem xTf.gr {σ0 σ : zS} (h : xTf σ0 σ) {pk n T : Nat} {fs : Nat → Nat} {E : Nat → List Nat} (hg : xGr σ0 pk n T fs E) : xGr σ pk n T fs E := by
  obtain ⟨a1, a2, a3, a4, a5, a6, a7, a8, a9, a10⟩ := h
  obtain ⟨g1, g2, g3, g4, g5, g6, g7, g8⟩ := hg
  have hpk : ¬ (22 ≤ pk ∧ pk ≤ 29) := by rcases g1.2.2 with e | e <;> omega
  refine ⟨⟨by rw [a4]; exact g1.1, by rw [a2]; exact g1.2.1, g1.2.2⟩, g2, by rw [a3]; exact g3, by rw [a3]; exact g4, fun s hs => by rw [a8 14 (by decide)]; exact g5 s hs, g6, g7, fun s hs j t hj => ?_⟩
  rw [a8 pk hpk]
  exact g8 s hs j t hj
def xTs (σ : zS) (n : Nat) (w bad : Nat → Bool) (path wait : List Nat) (ord low nx : Nat → Nat) (en : Nat) : Prop :=
  (zF σ 4 8 21 = nI path.length ∧ zF σ 4 9 21 = nI wait.length ∧ zF σ 4 10 21 = nI en) ∧
  (∀ t, t < n → zI σ 22 t = zb (w t) ∧ zI σ 23 t = zb (decide (t ∈ wait)) ∧ zI σ 24 t = zb (bad t)) ∧
  (∀ t, t < n → zI σ 25 t = nI (ord t)) ∧ (∀ t, t < n → ord t ≠ 0 → zI σ 26 t = nI (low t) ∧ zI σ 27 t = nI (nx t)) ∧
  (∀ R x, (x :: R) <:+ path → zI σ 28 R.length = nI x) ∧ (∀ R x, (x :: R) <:+ wait → zI σ 29 R.length = nI x)
theorem sfx_cons {α : Type} {x s : α} {R l : List α} (h : (x :: R) <:+ s :: l) : (x = s ∧ R = l) ∨ (x :: R) <:+ l := by
  rcases List.suffix_cons_iff.mp h with e | e
  · exact Or.inl (List.cons.inj e)
  · exact Or.inr e
theorem sfx_len {α : Type} {x : α} {R l : List α} (h : (x :: R) <:+ l) : R.length < l.length := by
  have := h.length_le
  rw [List.length_cons] at this
  omega
theorem xEnt_22 {σ : zS} {s en pl wl : Nat} (j : Nat) : zI (xEnt σ s en pl wl) 22 j = zI σ 22 j := by
  unfold xEnt
  rw [zI_zsI, if_neg (fun q => absurd q.1 (by decide)), zI_zsF, zI_zsI, if_neg (fun q => absurd q.1 (by decide)), zI_zsF, zI_zsI, if_neg (fun q => absurd q.1 (by decide)), zI_zsI, if_neg (fun q => absurd q.1 (by decide)), zI_zsI, if_neg (fun q => absurd q.1 (by decide)), zI_zsI, if_neg (fun q => absurd q.1 (by decide)), zI_zsF]
theorem xEnt_23 {σ : zS} {s en pl wl : Nat} (j : Nat) : zI (xEnt σ s en pl wl) 23 j = if j = s then 1 else zI σ 23 j := by
  unfold xEnt
  by_cases h : j = s
  · rw [zI_zsI, if_pos ⟨rfl, h⟩, if_pos h]
  · rw [zI_zsI, if_neg (fun q => h q.2), zI_zsF, zI_zsI, if_neg (fun q => absurd q.1 (by decide)), zI_zsF, zI_zsI, if_neg (fun q => absurd q.1 (by decide)), zI_zsI, if_neg (fun q => absurd q.1 (by decide)), zI_zsI, if_neg (fun q => absurd q.1 (by decide)), zI_zsI, if_neg (fun q => absurd q.1 (by decide)), zI_zsF, if_neg h]
theorem xEnt_24 {σ : zS} {s en pl wl : Nat} (j : Nat) : zI (xEnt σ s en pl wl) 24 j = zI σ 24 j := by
  unfold xEnt
  rw [zI_zsI, if_neg (fun q => absurd q.1 (by decide)), zI_zsF, zI_zsI, if_neg (fun q => absurd q.1 (by decide)), zI_zsF, zI_zsI, if_neg (fun q => absurd q.1 (by decide)), zI_zsI, if_neg (fun q => absurd q.1 (by decide)), zI_zsI, if_neg (fun q => absurd q.1 (by decide)), zI_zsI, if_neg (fun q => absurd q.1 (by decide)), zI_zsF]
theorem xEnt_25 {σ : zS} {s en pl wl : Nat} (j : Nat) : zI (xEnt σ s en pl wl) 25 j = if j = s then nI (en + 1) else zI σ 25 j := by
  unfold xEnt
  by_cases h : j = s
  · rw [zI_zsI, if_neg (fun q => absurd q.1 (by decide)), zI_zsF, zI_zsI, if_neg (fun q => absurd q.1 (by decide)), zI_zsF, zI_zsI, if_neg (fun q => absurd q.1 (by decide)), zI_zsI, if_neg (fun q => absurd q.1 (by decide)), zI_zsI, if_neg (fun q => absurd q.1 (by decide)), zI_zsI, if_pos ⟨rfl, h⟩, if_pos h]
  · rw [zI_zsI, if_neg (fun q => absurd q.1 (by decide)), zI_zsF, zI_zsI, if_neg (fun q => absurd q.1 (by decide)), zI_zsF, zI_zsI, if_neg (fun q => absurd q.1 (by decide)), zI_zsI, if_neg (fun q => absurd q.1 (by decide)), zI_zsI, if_neg (fun q => absurd q.1 (by decide)), zI_zsI, if_neg (fun q => h q.2), zI_zsF, if_neg h]
theorem xEnt_26 {σ : zS} {s en pl wl : Nat} (j : Nat) : zI (xEnt σ s en pl wl) 26 j = if j = s then nI (en + 1) else zI σ 26 j := by
  unfold xEnt
  by_cases h : j = s
  · rw [zI_zsI, if_neg (fun q => absurd q.1 (by decide)), zI_zsF, zI_zsI, if_neg (fun q => absurd q.1 (by decide)), zI_zsF, zI_zsI, if_neg (fun q => absurd q.1 (by decide)), zI_zsI, if_neg (fun q => absurd q.1 (by decide)), zI_zsI, if_pos ⟨rfl, h⟩, if_pos h]
  · rw [zI_zsI, if_neg (fun q => absurd q.1 (by decide)), zI_zsF, zI_zsI, if_neg (fun q => absurd q.1 (by decide)), zI_zsF, zI_zsI, if_neg (fun q => absurd q.1 (by decide)), zI_zsI, if_neg (fun q => absurd q.1 (by decide)), zI_zsI, if_neg (fun q => h q.2), zI_zsI, if_neg (fun q => absurd q.1 (by decide)), zI_zsF, if_neg h]
theorem xEnt_27 {σ : zS} {s en pl wl : Nat} (j : Nat) : zI (xEnt σ s en pl wl) 27 j = if j = s then 0 else zI σ 27 j := by
  unfold xEnt
  by_cases h : j = s
  · rw [zI_zsI, if_neg (fun q => absurd q.1 (by decide)), zI_zsF, zI_zsI, if_neg (fun q => absurd q.1 (by decide)), zI_zsF, zI_zsI, if_neg (fun q => absurd q.1 (by decide)), zI_zsI, if_pos ⟨rfl, h⟩, if_pos h]
  · rw [zI_zsI, if_neg (fun q => absurd q.1 (by decide)), zI_zsF, zI_zsI, if_neg (fun q => absurd q.1 (by decide)), zI_zsF, zI_zsI, if_neg (fun q => absurd q.1 (by decide)), zI_zsI, if_neg (fun q => h q.2), zI_zsI, if_neg (fun q => absurd q.1 (by decide)), zI_zsI, if_neg (fun q => absurd q.1 (by decide)), zI_zsF, if_neg h]
theorem xEnt_28 {σ : zS} {s en pl wl : Nat} (j : Nat) : zI (xEnt σ s en pl wl) 28 j = if j = pl then nI s else zI σ 28 j := by
  unfold xEnt
  by_cases h : j = pl
  · rw [zI_zsI, if_neg (fun q => absurd q.1 (by decide)), zI_zsF, zI_zsI, if_neg (fun q => absurd q.1 (by decide)), zI_zsF, zI_zsI, if_pos ⟨rfl, h⟩, if_pos h]
  · rw [zI_zsI, if_neg (fun q => absurd q.1 (by decide)), zI_zsF, zI_zsI, if_neg (fun q => absurd q.1 (by decide)), zI_zsF, zI_zsI, if_neg (fun q => h q.2), zI_zsI, if_neg (fun q => absurd q.1 (by decide)), zI_zsI, if_neg (fun q => absurd q.1 (by decide)), zI_zsI, if_neg (fun q => absurd q.1 (by decide)), zI_zsF, if_neg h]
theorem xEnt_29 {σ : zS} {s en pl wl : Nat} (j : Nat) : zI (xEnt σ s en pl wl) 29 j = if j = wl then nI s else zI σ 29 j := by
  unfold xEnt
  by_cases h : j = wl
  · rw [zI_zsI, if_neg (fun q => absurd q.1 (by decide)), zI_zsF, zI_zsI, if_pos ⟨rfl, h⟩, if_pos h]
  · rw [zI_zsI, if_neg (fun q => absurd q.1 (by decide)), zI_zsF, zI_zsI, if_neg (fun q => h q.2), zI_zsF, zI_zsI, if_neg (fun q => absurd q.1 (by decide)), zI_zsI, if_neg (fun q => absurd q.1 (by decide)), zI_zsI, if_neg (fun q => absurd q.1 (by decide)), zI_zsI, if_neg (fun q => absurd q.1 (by decide)), zI_zsF, if_neg h]
theorem xEnt_F8 {σ : zS} {s en pl wl : Nat} : zF (xEnt σ s en pl wl) 4 8 21 = nI (pl + 1) := by
  unfold xEnt
  rw [zF_zsI, zF_zsF, if_neg (fun q => absurd q.2.1 (by decide)), zF_zsI, zF_zsF, if_pos ⟨rfl, rfl, rfl⟩]
theorem xEnt_F9 {σ : zS} {s en pl wl : Nat} : zF (xEnt σ s en pl wl) 4 9 21 = nI (wl + 1) := by
  unfold xEnt
  rw [zF_zsI, zF_zsF, if_pos ⟨rfl, rfl, rfl⟩]
theorem xEnt_F10 {σ : zS} {s en pl wl : Nat} : zF (xEnt σ s en pl wl) 4 10 21 = nI (en + 1) := by
  unfold xEnt
  rw [zF_zsI, zF_zsF, if_neg (fun q => absurd q.2.1 (by decide)), zF_zsI, zF_zsF, if_neg (fun q => absurd q.2.1 (by decide)), zF_zsI, zF_zsI, zF_zsI, zF_zsI, zF_zsF, if_pos ⟨rfl, rfl, rfl⟩]
theorem xTf.Ent {σ0 σ : zS} {s en pl wl : Nat} (h : xTf σ0 σ) : xTf σ0 (xEnt σ s en pl wl) := by
  unfold xEnt
  exact (((((((((h.F (by decide)).I (by decide) (by decide)).I (by decide) (by decide)).I (by decide) (by decide)).I (by decide) (by decide)).F (by decide)).I (by decide) (by decide)).F (by decide)).I (by decide) (by decide))
theorem tU_if {α : Type} (f : Nat → α) (s : Nat) (v : α) (x : Nat) : tU f s v x = if x = s then v else f x := rfl
theorem xTs_enter {σ : zS} {n : Nat} {w bad : Nat → Bool} {path wait : List Nat} {ord low nx : Nat → Nat} {en s : Nat} (h : xTs σ n w bad path wait ord low nx en) : xTs (xEnt σ s en path.length wait.length) n w bad (s :: path) (s :: wait) (tU ord s (en + 1)) (tU low s (en + 1)) (tU nx s 0) (en + 1) := by
  obtain ⟨⟨f1, f2, f3⟩, h1, h2, h3, h4, h5⟩ := h
  refine ⟨⟨xEnt_F8, xEnt_F9, xEnt_F10⟩, fun t ht => ⟨?_, ?_, ?_⟩, fun t ht => ?_, fun t ht ho => ?_, fun R x hx => ?_, fun R x hx => ?_⟩
  · rw [xEnt_22]; exact (h1 t ht).1
  · rw [xEnt_23, (h1 t ht).2.1]
    by_cases e : t = s
    · rw [if_pos e, decide_eq_true (by rw [e]; exact List.mem_cons_self)]; rfl
    · rw [if_neg e]
      congr 1
      exact decide_eq_decide.mpr ⟨fun q => List.mem_cons_of_mem _ q, fun q => (List.mem_cons.mp q).resolve_left e⟩
  · rw [xEnt_24]; exact (h1 t ht).2.2
  · rw [xEnt_25, tU_if]
    by_cases e : t = s
    · rw [if_pos e, if_pos e]
    · rw [if_neg e, if_neg e]; exact h2 t ht
  · rw [xEnt_26, xEnt_27, tU_if, tU_if]
    rw [tU_if] at ho
    by_cases e : t = s
    · rw [if_pos e, if_pos e, if_pos e, if_pos e, nI_0]
      exact ⟨rfl, rfl⟩
    · rw [if_neg e] at ho
      rw [if_neg e, if_neg e, if_neg e, if_neg e]
      exact h3 t ht ho
  · rw [xEnt_28]
    rcases sfx_cons hx with ⟨rfl, rfl⟩ | q
    · rw [if_pos rfl]
    · rw [if_neg (by have := sfx_len q; omega)]
      exact h4 R x q
  · rw [xEnt_29]
    rcases sfx_cons hx with ⟨rfl, rfl⟩ | q
    · rw [if_pos rfl]
    · rw [if_neg (by have := sfx_len q; omega)]
      exact h5 R x q
theorem xTs_nx {σ : zS} {n : Nat} {w bad : Nat → Bool} {path wait : List Nat} {ord low nx : Nat → Nat} {en v x : Nat} (h : xTs σ n w bad path wait ord low nx en) : xTs (zsI σ 27 v (nI x)) n w bad path wait ord low (tU nx v x) en := by
  obtain ⟨hf, h1, h2, h3, h4, h5⟩ := h
  have o : ∀ a, a ≠ 27 → zI (zsI σ 27 v (nI x)) a = zI σ a := fun a ha => funext fun j => by rw [zI_zsI, if_neg (fun q => ha q.1)]
  refine ⟨hf, fun t ht => by rw [o 22 (by decide), o 23 (by decide), o 24 (by decide)]; exact h1 t ht, fun t ht => by rw [o 25 (by decide)]; exact h2 t ht, fun t ht ho => ?_, fun R y hy => by rw [o 28 (by decide)]; exact h4 R y hy, fun R y hy => by rw [o 29 (by decide)]; exact h5 R y hy⟩
  rw [o 26 (by decide), zI_zsI, tU_if]
  refine ⟨(h3 t ht ho).1, ?_⟩
  by_cases e : t = v
  · rw [if_pos ⟨rfl, e⟩, if_pos e]
  · rw [if_neg (fun q => e q.2), if_neg e]
    exact (h3 t ht ho).2
theorem xTs_low {σ : zS} {n : Nat} {w bad : Nat → Bool} {path wait : List Nat} {ord low nx : Nat → Nat} {en v x : Nat} (h : xTs σ n w bad path wait ord low nx en) : xTs (zsI σ 26 v (nI x)) n w bad path wait ord (tU low v x) nx en := by
  obtain ⟨hf, h1, h2, h3, h4, h5⟩ := h
  have o : ∀ a, a ≠ 26 → zI (zsI σ 26 v (nI x)) a = zI σ a := fun a ha => funext fun j => by rw [zI_zsI, if_neg (fun q => ha q.1)]
  refine ⟨hf, fun t ht => by rw [o 22 (by decide), o 23 (by decide), o 24 (by decide)]; exact h1 t ht, fun t ht => by rw [o 25 (by decide)]; exact h2 t ht, fun t ht ho => ?_, fun R y hy => by rw [o 28 (by decide)]; exact h4 R y hy, fun R y hy => by rw [o 29 (by decide)]; exact h5 R y hy⟩
  rw [o 27 (by decide), zI_zsI, tU_if]
  refine ⟨?_, (h3 t ht ho).2⟩
  by_cases e : t = v
  · rw [if_pos ⟨rfl, e⟩, if_pos e]
  · rw [if_neg (fun q => e q.2), if_neg e]
    exact (h3 t ht ho).1
theorem xTs_pop {σ : zS} {n : Nat} {w bad : Nat → Bool} {path wait : List Nat} {ord low nx : Nat → Nat} {en v : Nat} (h : xTs σ n w bad (v :: path) wait ord low nx en) : xTs (zsF σ 4 8 21 (nI path.length)) n w bad path wait ord low nx en := by
  obtain ⟨⟨f1, f2, f3⟩, h1, h2, h3, h4, h5⟩ := h
  exact ⟨⟨by rw [zF_zsF, if_pos ⟨rfl, rfl, rfl⟩], by rw [zF_zsF, if_neg (by decide)]; exact f2, by rw [zF_zsF, if_neg (by decide)]; exact f3⟩, h1, h2, h3, fun R x hx => h4 R x (hx.trans (List.suffix_cons _ _)), h5⟩
theorem xTs_close {σ : zS} {n : Nat} {w bad : Nat → Bool} {path A B : List Nat} {ord low nx : Nat → Nat} {en v : Nat} {f y : Int32} {g nb : Bool} (h : xTs σ n w bad path (A ++ v :: B) ord low nx en) (hnd : (A ++ v :: B).Nodup) : xTs (zsF (xMrk (zsF (xLk σ f (zb g)) 4 12 21 y) (zb nb) (A ++ [v])) 4 9 21 (nI B.length)) n w (fun x => if x ∈ A ++ [v] then nb else bad x) path B ord low nx en := by
  obtain ⟨⟨f1, f2, f3⟩, h1, h2, h3, h4, h5⟩ := h
  have e0 : ∀ k, k ≠ 9 → k ≠ 12 → k ≠ 13 → k ≠ 14 → zF (zsF (xMrk (zsF (xLk σ f (zb g)) 4 12 21 y) (zb nb) (A ++ [v])) 4 9 21 (nI B.length)) 4 k 21 = zF σ 4 k 21 := fun k k1 k2 k3 k4 => by
    rw [zF_zsF, if_neg (fun q => k1 q.2.1), xMrk_F, zF_zsF, if_neg (fun q => k2 q.2.1)]
    unfold xLk
    rw [zF_zsF, if_neg (fun q => k4 q.2.1), zF_zsF, if_neg (fun q => k3 q.2.1)]
  have e1 : ∀ a, a ≠ 23 → a ≠ 24 → zI (zsF (xMrk (zsF (xLk σ f (zb g)) 4 12 21 y) (zb nb) (A ++ [v])) 4 9 21 (nI B.length)) a = zI σ a := fun a a1 a2 => by
    rw [zI_zsF, xMrk_I _ a1 a2]
    rfl
  have eB : ∀ t, t ∈ B ↔ t ∈ A ++ v :: B ∧ t ∉ A ++ [v] := by
    intro t
    have hd := List.nodup_append.mp hnd
    constructor
    · intro ht
      refine ⟨List.mem_append_right _ (List.mem_cons_of_mem _ ht), fun q => ?_⟩
      rcases List.mem_append.mp q with q | q
      · exact hd.2.2 t q t (List.mem_cons_of_mem _ ht) rfl
      · rw [List.mem_singleton.mp q] at ht
        exact (List.nodup_cons.mp hd.2.1).1 ht
    · rintro ⟨h1, h2⟩
      rcases List.mem_append.mp h1 with q | q
      · exact absurd (List.mem_append_left _ q) h2
      · rcases List.mem_cons.mp q with q | q
        · exact absurd (List.mem_append_right _ (List.mem_singleton.mpr q)) h2
        · exact q
  refine ⟨⟨(e0 8 (by decide) (by decide) (by decide) (by decide)).trans f1, by rw [zF_zsF, if_pos ⟨rfl, rfl, rfl⟩], (e0 10 (by decide) (by decide) (by decide) (by decide)).trans f3⟩, fun t ht => ⟨?_, ?_, ?_⟩, fun t ht => by rw [e1 25 (by decide) (by decide)]; exact h2 t ht, fun t ht ho => by rw [e1 26 (by decide) (by decide), e1 27 (by decide) (by decide)]; exact h3 t ht ho, fun R x hx => by rw [e1 28 (by decide) (by decide)]; exact h4 R x hx, fun R x hx => by rw [e1 29 (by decide) (by decide)]; exact h5 R x (hx.trans ⟨A ++ [v], by rw [List.append_assoc]; rfl⟩)⟩
  · rw [e1 22 (by decide) (by decide)]; exact (h1 t ht).1
  · rw [zI_zsF, xMrk_23]
    by_cases q : t ∈ A ++ [v]
    · rw [if_pos q, decide_eq_false (fun z => ((eB t).mp z).2 q)]; rfl
    · rw [if_neg q]
      refine ((h1 t ht).2.1).trans ?_
      congr 1
      exact decide_eq_decide.mpr ⟨fun z => (eB t).mpr ⟨z, q⟩, fun z => ((eB t).mp z).1⟩
  · rw [zI_zsF, xMrk_24]
    show _ = zb (if t ∈ A ++ [v] then nb else bad t)
    by_cases q : t ∈ A ++ [v]
    · rw [if_pos q, if_pos q]
    · rw [if_neg q, if_neg q]
      exact (h1 t ht).2.2
end
section
/-! the walk's turns -/
theorem tInv_nd {n : Nat} {E : Nat → List Nat} {w : Nat → Bool} {path wait : List Nat} {ord low nx : Nat → Nat} {bad : Nat → Bool} {en : Nat} (h : tInv n E w path wait ord low nx bad en) : (path.Nodup ∧ path.length ≤ n) ∧ (wait.Nodup ∧ wait.length ≤ n) ∧ (∀ x, x ∈ wait → x < n ∧ ord x ≠ 0 ∧ w x = true ∧ ord x ≤ en) ∧ (∀ x, x ∈ path → x ∈ wait) := by
  obtain ⟨a1, a2, a3, a4, a5, -⟩ := h
  have k : ∀ x, x ∈ wait → x < n ∧ ord x ≠ 0 ∧ w x = true ∧ ord x ≤ en := fun x hx => by
    have h1 : ord x ≠ 0 := by have := a1 x hx; omega
    obtain ⟨b1, b2, b3⟩ := a2 x h1
    exact ⟨b1, h1, b2, b3⟩
  have np : path.Nodup := a5.imp (fun q e => by rw [e] at q; omega)
  have nw : wait.Nodup := a3.imp (fun q e => by rw [e] at q; omega)
  exact ⟨⟨np, nd_len n path np (fun x hx => (k x (a4 x hx)).1)⟩, ⟨nw, nd_len n wait nw (fun x hx => (k x hx).1)⟩, k, a4⟩
def xWs (σ0 σ : zS) (n : Nat) (E : Nat → List Nat) (w : Nat → Bool) (M : Nat → Prop) (path : List Nat) (turn : Nat) : Prop :=
  xTf σ0 σ ∧ ∃ wait ord low nx bad en, xTs σ n w bad path wait ord low nx en ∧ tInv n E w path wait ord low nx bad en ∧ tEx n E ord nx path en turn ∧ ∀ x, M x → ord x ≠ 0
theorem tW_follow {σ0 σ : zS} {n en turn v t : Nat} {E : Nat → List Nat} {w bad : Nat → Bool} {M : Nat → Prop} {r wait : List Nat} {ord low nx : Nat → Nat} (hf : xTf σ0 σ) (hs : xTs σ n w bad (v :: r) wait ord low nx en) (hI : tInv n E w (v :: r) wait ord low nx bad en) (hX : tEx n E ord nx (v :: r) en turn) (hM : ∀ x, M x → ord x ≠ 0) (ht : (E v)[nx v]? = some t) (htn : t < n) :
    ∃ path', xWs σ0 (if w t = false then zsI σ 27 v (nI (nx v + 1)) else if ord t = 0 then xEnt (zsI σ 27 v (nI (nx v + 1))) t en (v :: r).length wait.length else if decide (t ∈ wait) = false then zsI σ 27 v (nI (nx v + 1)) else zsI (zsI σ 27 v (nI (nx v + 1))) 26 v (nI (min (low v) (ord t)))) n E w M path' (turn + 1) := by
  have s1 := xTs_nx (v := v) (x := nx v + 1) hs
  have f1 : xTf σ0 (zsI σ 27 v (nI (nx v + 1))) := hf.I (by decide) (by decide)
  have hd := tInv_nd hI
  have hv := hd.2.2.1 v (hd.2.2.2 v List.mem_cons_self)
  have hlt : nx v < (E v).length := (List.getElem?_eq_some_iff.mp ht).1
  have x1 := tEx_step hX hv.2.1 hlt
  by_cases c1 : w t = false
  · rw [if_pos c1]
    exact ⟨v :: r, f1, wait, ord, low, tU nx v (nx v + 1), bad, en, s1, tInv_follow hI ht low (Or.inl ⟨c1, rfl⟩), x1, hM⟩
  rw [if_neg c1]
  have c1' : w t = true := by
    cases e : w t with
    | true => rfl
    | false => exact absurd e c1
  by_cases c2 : ord t = 0
  · rw [if_pos c2]
    refine ⟨t :: v :: r, f1.Ent, t :: wait, tU ord t (en + 1), tU low t (en + 1), tU (tU nx v (nx v + 1)) t 0, bad, en + 1, xTs_enter s1, tInv_enter hI htn c1' c2 (tU nx v (nx v + 1)) (Or.inr ⟨v, r, rfl, ht, tU_s, fun x q _ => tU_n q⟩), tEx_enter0 x1 c2 htn (en + 1) (by omega), fun x hx => ?_⟩
    rw [tU_if]
    by_cases e : x = t
    · rw [if_pos e]; omega
    · rw [if_neg e]; exact hM x hx
  rw [if_neg c2]
  by_cases c3 : t ∈ wait
  · rw [if_neg (by rw [decide_eq_true c3]; decide)]
    exact ⟨v :: r, f1.I (by decide) (by decide), wait, ord, tU low v (min (low v) (ord t)), tU nx v (nx v + 1), bad, en, xTs_low s1, tInv_follow hI ht _ (Or.inr (Or.inr ⟨c1', c2, c3, rfl⟩)), x1, hM⟩
  · rw [if_pos (decide_eq_false c3)]
    exact ⟨v :: r, f1, wait, ord, low, tU nx v (nx v + 1), bad, en, s1, tInv_follow hI ht low (Or.inr (Or.inl ⟨c2, c3, rfl⟩)), x1, hM⟩
def lw1 (low : Nat → Nat) (v : Nat) : List Nat → Nat → Nat
  | [] => low
  | b :: _ => tU low b (min (low b) (low v))
theorem tW_close {n en v : Nat} {E : Nat → List Nat} {w bad : Nat → Bool} {r A B : List Nat} {ord low nx : Nat → Nat} {tk ev : Int32} {g tp : Bool} (hI : tInv n E w (v :: r) (A ++ v :: B) ord low nx bad en) (hnl : nx v = (E v).length) (hlo : low v = ord v) (hv1 : tk &&& ev = 0 → E v = []) (hv2 : E v = [] → tk = 0)
    (b1 : g = true ↔ ∃ x, (x ∈ A ∨ x = v) ∧ ∃ t, t ∈ E x ∧ w t = true ∧ decide (t ∈ A ++ v :: B) = false ∧ bad t = true) (b2 : tp = true → A = [] → lkI w (fun t => decide (t ∈ A ++ v :: B)) (E v) = true ∨ tk &&& ev = 0) (b3 : A = [] → lkI w (fun t => decide (t ∈ A ++ v :: B)) (E v) = false → tk = 0 → tp = true) :
    tInv n E w r B ord (lw1 low v r) nx (fun x => if x ∈ A ++ [v] then (tp || g) else bad x) en := by
  refine tInv_close hI hnl hlo (lw1 low v r) ?_ (tp || g) ?_ ?_ ?_ _ ?_ ?_
  · intro p hp
    cases r with
    | nil => exact absurd hp List.not_mem_nil
    | cons b r' =>
      show tU low b (min (low b) (low v)) p = low p
      by_cases e : p = b
      · rw [e, tU_s, hlo]
        have a5 := hI.2.2.2.2.1
        have a8 := hI.2.2.2.2.2.2.2.1
        have q1 := (List.pairwise_cons.mp a5).1 b List.mem_cons_self
        have q2 := (a8 b (List.mem_cons_of_mem _ List.mem_cons_self)).1
        exact Nat.min_eq_left (by omega)
      · exact tU_n e
  · intro h
    cases tp with
    | false =>
      obtain ⟨x, x1, t, t1, t2, t3, t4⟩ := b1.mp h
      exact Or.inl ⟨x, t, x1, t1, t2, of_decide_eq_false t3, t4⟩
    | true =>
      refine Or.inr (fun hA => ?_)
      rcases b2 rfl hA with q | q
      · obtain ⟨t, t1, t2, t3⟩ := (lkI_iff _).mp q
        have t3 : t ∈ A ++ v :: B := of_decide_eq_true t3
        rw [hA] at t3
        rcases List.mem_cons.mp t3 with e | e
        · exact Or.inl (e ▸ t1)
        · exfalso
          have a3 := hI.2.2.1
          have a9 := hI.2.2.2.2.2.2.2.2.1
          rw [hA] at a3 a9
          have q1 := (List.pairwise_cons.mp a3).1 t e
          obtain ⟨i, hi⟩ := List.getElem?_of_mem t1
          have hl := (List.getElem?_eq_some_iff.mp hi).1
          have q2 := (a9 v List.mem_cons_self i t (by rw [hnl]; exact hl) hi t2).2 (List.mem_cons_of_mem _ e) v ⟨List.mem_cons_self, Nat.le_refl _, fun _ _ z => z⟩
          omega
      · exact Or.inr (hv1 q)
  · intro x t x1 t1 t2 t3 t4
    rw [b1.mpr ⟨x, x1, t, t1, t2, decide_eq_false t3, t4⟩]
    cases tp <;> rfl
  · intro hA hE
    rw [b3 hA (by rw [hE]; rfl) (hv2 hE)]
    rfl
  · intro x hx
    refine if_pos ?_
    rcases hx with q | q
    · exact List.mem_append_left _ q
    · rw [q]; exact List.mem_append_right _ List.mem_cons_self
  · intro x hx
    refine if_neg (fun q => hx ?_)
    rcases List.mem_append.mp q with q | q
    · exact Or.inl q
    · exact Or.inr (List.mem_singleton.mp q)
set_option maxHeartbeats 4000000 in
set_option maxRecDepth 100000 in
theorem lp_walk_nil {l : Launch} {σ : zS} (h : xSh σ) {TT turn : Nat} {ev : Int32} {Q : Option Value → zS → Prop} (hpl : zF σ 4 8 21 = nI 0) (hQ : Q none σ) : zAW l zmX4_walkFrom { frames := 4, cells := 0, slots := 0, locals := 95 } 19 [(0, .ref 21), (2, .ref 8), (3, .int ev), (4, .int (nI TT)), (5, .int (nI turn))] [] σ 0 0 Q := by
  refine zw_iload dX4_walkFrom_19 rfl ?_
  refine zw_iload dX4_walkFrom_21 rfl ?_
  refine zw_icmpge (tgt := 140) dX4_walkFrom_23 (by decide) (fun c23 => ?_) (fun c23 => ?_)
  · refine zw_vret dX4_walkFrom_140 rfl ?_
    exact hQ
  · refine zw_aload_n dX4_walkFrom_26 rfl ?_
    refine zw_getI dX4_walkFrom_27 zfX4_64 rfl (xk_21 h) (by decide) ?_
    refine zw_ifle (tgt := 140) dX4_walkFrom_30 (by decide) (fun c30 => ?_) (fun c30 => ?_)
    · refine zw_vret dX4_walkFrom_140 rfl ?_
      exact hQ
    · exact absurd (show zF σ 4 8 21 ≤ 0 by rw [hpl]; decide) c30
set_option maxHeartbeats 4000000 in
set_option maxRecDepth 100000 in
theorem lp_leave {l : Launch} {σ0 σ : zS} (h : xSh σ) (hf : xTf σ0 σ) {n en v : Nat} {E : Nat → List Nat} {w bad : Nat → Bool} {r wait : List Nat} {ord low nx : Nat → Nat} (hs : xTs σ n w bad (v :: r) wait ord low nx en) (hI : tInv n E w (v :: r) wait ord low nx bad en) (hn : n ≤ 400) (he : en ≤ n) {turn TT : Nat} {ev : Int32} {Q : Option Value → zS → Prop} (K : ∀ σ1, xTf σ0 σ1 → xTs σ1 n w bad r wait ord (lw1 low v r) nx en → zAW l zmX4_walkFrom { frames := 4, cells := 0, slots := 0, locals := 95 } 109 [(0, .ref 21), (2, .ref 8), (3, .int ev), (4, .int (nI TT)), (5, .int (nI turn)), (6, .int (nI v))] [] σ1 0 0 Q) : zAW l zmX4_walkFrom { frames := 4, cells := 0, slots := 0, locals := 95 } 103 [(0, .ref 21), (2, .ref 8), (3, .int ev), (4, .int (nI TT)), (5, .int (nI turn)), (6, .int (nI v))] [] σ 0 0 Q := by
  have hd := tInv_nd hI
  have hv := hd.2.2.1 v (hd.2.2.2 v List.mem_cons_self)
  cases r with
  | nil =>
    refine zw_aload_n dX4_walkFrom_103 rfl ?_
    refine zw_iload dX4_walkFrom_104 rfl ?_
    refine zw_callV (y' := zmX4_leave) dX4_walkFrom_106 zlX4_97 zmX4_leave_ok (xk_21 h) (by decide) rfl (c_X4_leave_0 h hs.1.1) rfl rfl (Nat.le_of_ble_eq_true rfl) ⟨Nat.le_of_ble_eq_true rfl, Nat.le_of_ble_eq_true rfl⟩ ⟨Nat.le_of_ble_eq_true rfl, Nat.le_of_ble_eq_true rfl⟩ ?_
    intro v106 s106 q106
    obtain ⟨rfl, z106⟩ := q106
    rw [z106]
    clear z106
    exact K _ (hf.F (by decide)) (xTs_pop hs)
  | cons b r' =>
    have hb := hd.2.2.1 b (hd.2.2.2 b (List.mem_cons_of_mem _ List.mem_cons_self))
    have hq : r'.length < 399 := by
      have := hd.1.2
      rw [List.length_cons, List.length_cons] at this
      omega
    have q1 := (hI.2.2.2.2.2.2.2.1 v List.mem_cons_self).1
    have q2 := (hI.2.2.2.2.2.2.2.1 b (List.mem_cons_of_mem _ List.mem_cons_self)).1
    refine zw_aload_n dX4_walkFrom_103 rfl ?_
    refine zw_iload dX4_walkFrom_104 rfl ?_
    refine zw_callV (y' := zmX4_leave) dX4_walkFrom_106 zlX4_97 zmX4_leave_ok (xk_21 h) (by decide) rfl (c_X4_leave_1 h (q := r'.length) (b := b) (lb := low b) (ls := low v) (show zF σ 4 8 21 = nI (r'.length + 2) from hs.1.1) hq (by omega) (hs.2.2.2.2.1 r' b (List.suffix_cons _ _)) (by omega) (hs.2.2.2.1 b hb.1 hb.2.1).1 (hs.2.2.2.1 v hv.1 hv.2.1).1 (by omega) (by omega)) rfl rfl (Nat.le_of_ble_eq_true rfl) ⟨Nat.le_of_ble_eq_true rfl, Nat.le_of_ble_eq_true rfl⟩ ⟨Nat.le_of_ble_eq_true rfl, Nat.le_of_ble_eq_true rfl⟩ ?_
    intro v106 s106 q106
    obtain ⟨rfl, z106⟩ := q106
    rw [z106]
    clear z106
    exact K _ ((hf.F (by decide)).I (by decide) (by decide)) (xTs_low (xTs_pop hs))
set_option maxHeartbeats 4000000 in
set_option maxRecDepth 100000 in
theorem lp_walk {l : Launch} {σ0 : zS} (h0 : xSh σ0) {pk n : Nat} {fs : Nat → Nat} {E : Nat → List Nat} {w : Nat → Bool} {M : Nat → Prop} {ev : Int32} (hgr : xGr σ0 pk n (fs n) fs E) (hT : fs n < 2 ^ 20) (hv1 : ∀ s, s < n → zI σ0 13 s &&& ev = 0 → E s = []) (hv2 : ∀ s, s < n → E s = [] → zI σ0 13 s = 0) {TT : Nat} (hTT : TT = fs n + n) : ∀ (d turn : Nat) (path : List Nat) (σ : zS), turn + d = fs n + n → xWs σ0 σ n E w M path turn → zAW l zmX4_walkFrom { frames := 4, cells := 0, slots := 0, locals := 95 } 19 [(0, .ref 21), (2, .ref 8), (3, .int ev), (4, .int (nI TT)), (5, .int (nI turn))] [] σ 0 0 (fun r σ' => r = none ∧ xWs σ0 σ' n E w M [] 0) := by
  intro d
  induction d with
  | zero =>
    intro turn path σ htd ⟨hf, wait, ord, low, nx, bad, en, hs, hI, hX, hM⟩
    cases path with
    | nil => exact lp_walk_nil (hf.sh h0) hs.1.1 ⟨rfl, hf, wait, ord, low, nx, bad, en, hs, hI, tEx_turn0 hX, hM⟩
    | cons v r =>
      have := tEx_turn hX (by simp) hgr.2.2.2.2.2.1 (Nat.le_refl _)
      omega
  | succ d ih =>
    intro turn path σ htd ⟨hf, wait, ord, low, nx, bad, en, hs, hI, hX, hM⟩
    cases path with
    | nil => exact lp_walk_nil (hf.sh h0) hs.1.1 ⟨rfl, hf, wait, ord, low, nx, bad, en, hs, hI, tEx_turn0 hX, hM⟩
    | cons v r =>
      have h := hf.sh h0
      have hgs := hf.gr hgr
      obtain ⟨g1, g2, g3, g4, g5, g6, g7, g8⟩ := id hgs
      have htt := tEx_turn hX (by simp) g6 (Nat.le_refl _)
      have hen := tEx_en hX
      have hd := tInv_nd hI
      have hvw : v ∈ wait := hd.2.2.2 v List.mem_cons_self
      obtain ⟨hvn, hvo, hvt, hve⟩ := hd.2.2.1 v hvw
      have hpl : zF σ 4 8 21 = nI (r.length + 1) := hs.1.1
      have hrl : r.length + 1 ≤ n := hd.1.2
      have hsv : zI σ 28 r.length = nI v := hs.2.2.2.2.1 r v (List.suffix_refl _)
      have hnx := (hs.2.2.2.1 v hvn hvo).2
      have hnle := (hI.2.2.2.2.2.2.2.2.2.1 v hvw).1
      have hF1 := g5 v (by omega)
      have e6 := g6 v hvn
      have e7 := g7 (v + 1) hvn
      have hF2 : zI σ 14 (v + 1) = nI (fs v + (E v).length) := (g5 (v + 1) hvn).trans (congrArg nI e6)
      refine zw_iload dX4_walkFrom_19 rfl ?_
      refine zw_iload dX4_walkFrom_21 rfl ?_
      refine zw_icmpge (tgt := 140) dX4_walkFrom_23 (by decide) (fun c23 => ?_) (fun c23 => ?_)
      · exact absurd c23 (nI_ge (by omega) (by omega))
      · refine zw_aload_n dX4_walkFrom_26 rfl ?_
        refine zw_getI dX4_walkFrom_27 zfX4_64 rfl (xk_21 h) (by decide) ?_
        refine zw_ifle (tgt := 140) dX4_walkFrom_30 (by decide) (fun c30 => ?_) (fun c30 => ?_)
        · rw [hpl] at c30
          exact absurd c30 (nI_nle (by omega) (by omega))
        · refine zw_aload_n dX4_walkFrom_33 rfl ?_
          refine zw_getR dX4_walkFrom_34 zfX4_31 rfl (xk_21 h) (by decide) (xg_4_6 h) ?_
          refine zw_aload_n dX4_walkFrom_37 rfl ?_
          refine zw_getI dX4_walkFrom_38 zfX4_64 rfl (xk_21 h) (by decide) ?_
          refine zw_iconst (x := 1) dX4_walkFrom_41 rfl ?_
          refine zw_isub dX4_walkFrom_42 ?_
          rw [hpl, show nI (r.length + 1) - 1 = nI r.length from nI_pred _]
          refine zw_iaload dX4_walkFrom_43 (xk_28 h) (zin_of (xl_28 h) (vp_in_nI (by omega) (by omega))) ?_
          rw [nI_clamp (show r.length < 2 ^ 31 by omega), hsv]
          refine zw_istore dX4_walkFrom_44 (by decide) rfl ?_
          refine zw_aload_n dX4_walkFrom_46 rfl ?_
          refine zw_getR dX4_walkFrom_47 zfX4_28 rfl (xk_21 h) (by decide) (xg_4_5 h) ?_
          refine zw_iload dX4_walkFrom_50 rfl ?_
          refine zw_iaload dX4_walkFrom_52 (xk_27 h) (zin_of (xl_27 h) (vp_in_nI (by omega) (by omega))) ?_
          rw [nI_clamp (show v < 2 ^ 31 by omega), hnx]
          refine zw_aload_n dX4_walkFrom_53 rfl ?_
          refine zw_iload dX4_walkFrom_54 rfl ?_
          refine zw_callV (y' := zmX3_stepsOf) dX4_walkFrom_56 zlX4_83 zmX3_stepsOf_ok (xk_8 h) (by decide) rfl (c_X3_stepsOf h (show v < 400 by omega)) rfl rfl (Nat.le_of_ble_eq_true rfl) ⟨Nat.le_of_ble_eq_true rfl, Nat.le_of_ble_eq_true rfl⟩ ⟨Nat.le_of_ble_eq_true rfl, Nat.le_of_ble_eq_true rfl⟩ ?_
          intro v56 s56 q56
          obtain ⟨rfl, z56⟩ := q56
          rw [z56]
          clear z56
          rw [hF2, hF1, show nI (fs v + (E v).length) - nI (fs v) = nI (E v).length from by rw [Nat.add_comm, ← nI_add]; exact Int32.add_sub_cancel _ _]
          refine zw_icmpge (tgt := 103) dX4_walkFrom_59 (by decide) (fun c59 => ?_) (fun c59 => ?_)
          · have hnl : nx v = (E v).length := Nat.le_antisymm hnle (Nat.le_of_not_lt (fun q => nI_ge q (by omega) c59))
            refine zw_loc (lc' := [(0, .ref 21), (2, .ref 8), (3, .int ev), (4, .int (nI TT)), (5, .int (nI turn)), (6, .int (nI v))]) (zsub_cons rfl (zsub_cons rfl (zsub_cons rfl (zsub_cons rfl (zsub_cons rfl (zsub_cons rfl zsub_nil)))))) (lp_leave h hf hs hI g2 hen (fun σ1 f1 s1 => ?_))
            have h1 := f1.sh h0
            obtain ⟨⟨e1, e2, e3⟩, k1, k2, k3, k4, k5⟩ := id s1
            have hlv : lw1 low v r v = low v := by
              cases r with
              | nil => rfl
              | cons b r' => exact tU_n (fun e => (List.nodup_cons.mp hd.1.1).1 (by rw [e]; exact List.mem_cons_self))
            have hl1 : zI σ1 26 v = nI (low v) := (k3 v hvn hvo).1.trans (congrArg nI hlv)
            have ho1 := k2 v hvn
            have hvl := (hI.2.2.2.2.2.2.2.1 v List.mem_cons_self).1
            refine zw_aload_n dX4_walkFrom_109 rfl ?_
            refine zw_getR dX4_walkFrom_110 zfX4_25 rfl (xk_21 h1) (by decide) (xg_4_4 h1) ?_
            refine zw_iload dX4_walkFrom_113 rfl ?_
            refine zw_iaload dX4_walkFrom_115 (xk_26 h1) (zin_of (xl_26 h1) (vp_in_nI (by omega) (by omega))) ?_
            rw [nI_clamp (show v < 2 ^ 31 by omega), hl1]
            refine zw_aload_n dX4_walkFrom_116 rfl ?_
            refine zw_getR dX4_walkFrom_117 zfX4_21 rfl (xk_21 h1) (by decide) (xg_4_3 h1) ?_
            refine zw_iload dX4_walkFrom_120 rfl ?_
            refine zw_iaload dX4_walkFrom_122 (xk_25 h1) (zin_of (xl_25 h1) (vp_in_nI (by omega) (by omega))) ?_
            rw [nI_clamp (show v < 2 ^ 31 by omega), ho1]
            refine zw_icmpne (tgt := 134) dX4_walkFrom_123 (by decide) (fun c123 => ?_) (fun c123 => ?_)
            · refine zw_iinc dX4_walkFrom_134 rfl (by decide) rfl ?_
              refine zw_goto (tgt := 19) dX4_walkFrom_137 (by decide) ?_
              have hne : low v ≠ ord v := fun e => c123 (congrArg nI e)
              obtain ⟨b, r', hr, hI'⟩ := tInv_leave hI hnl hne
              subst hr
              refine zw_loc (lc' := [(0, .ref 21), (2, .ref 8), (3, .int ev), (4, .int (nI TT)), (5, .int (nI turn + 1))]) (zsub_cons rfl (zsub_cons rfl (zsub_cons rfl (zsub_cons rfl (zsub_cons rfl zsub_nil))))) ?_
              rw [nI_1]
              exact ih (turn + 1) (b :: r') _ (by omega) ⟨f1, wait, ord, lw1 low v (b :: r'), nx, bad, en, s1, hI', tEx_leave hX, hM⟩
            · have hlo : low v = ord v := (nI_eq (by omega) (by omega)).mp c123
              obtain ⟨A, B, rfl⟩ := List.append_of_mem hvw
              have ht13 : zI σ1 13 v = zI σ0 13 v := by rw [f1.2.2.2.2.2.2.2.1 13 (by decide)]
              have hvA : v ∉ A := fun q => (List.nodup_append.mp hd.2.1.1).2.2 v q v List.mem_cons_self rfl
              refine zw_aload_n dX4_walkFrom_126 rfl ?_
              refine zw_iload dX4_walkFrom_127 rfl ?_
              refine zw_aload_n dX4_walkFrom_129 rfl ?_
              refine zw_iload_n dX4_walkFrom_130 rfl ?_
              refine zw_callV (y' := zmX4_close) dX4_walkFrom_131 zlX4_100 zmX4_close_ok (xk_21 h1) (by decide) rfl (c_X4_close (σ := σ1) (A := A) (B := B) (w := w) (wa := fun t => decide (t ∈ A ++ v :: B)) (bad := bad) (ev := ev) h1 (f1.gr hgr) k1 k5 (fun x hx => (hd.2.2.1 x hx).1) hd.2.1.2 hvA e2) rfl rfl (Nat.le_of_ble_eq_true rfl) ⟨Nat.le_of_ble_eq_true rfl, Nat.le_of_ble_eq_true rfl⟩ ⟨Nat.le_of_ble_eq_true rfl, Nat.le_of_ble_eq_true rfl⟩ ?_
              intro v131 s131 q131
              obtain ⟨rfl, fq, gq, tp, yq, b1, b2, b3, z131⟩ := q131
              rw [z131]
              clear z131
              refine zw_iinc dX4_walkFrom_134 rfl (by decide) rfl ?_
              refine zw_goto (tgt := 19) dX4_walkFrom_137 (by decide) ?_
              refine zw_loc (lc' := [(0, .ref 21), (2, .ref 8), (3, .int ev), (4, .int (nI TT)), (5, .int (nI turn + 1))]) (zsub_cons rfl (zsub_cons rfl (zsub_cons rfl (zsub_cons rfl (zsub_cons rfl zsub_nil))))) ?_
              rw [nI_1]
              exact ih (turn + 1) r _ (by omega) ⟨((((f1.F (by decide)).F (by decide)).F (by decide)).Mrk _).F (by decide), B, ord, lw1 low v r, nx, _, en, xTs_close s1 hd.2.1.1, tW_close hI hnl hlo (hv1 v hvn) (hv2 v hvn) b1 (by rw [← ht13]; exact b2) (by rw [← ht13]; exact b3), tEx_leave hX, hM⟩
          · have hlt : nx v < (E v).length := Nat.lt_of_not_le (fun q => c59 (nI_le q (by omega)))
            obtain ⟨t, ht⟩ : ∃ t, (E v)[nx v]? = some t := ⟨_, List.getElem?_eq_getElem hlt⟩
            obtain ⟨htn, hpt⟩ := g8 v hvn (nx v) t ht
            have hnx2 := xTs_nx (v := v) (x := nx v + 1) hs
            have hto : ord t < 2 ^ 31 := by
              by_cases q : ord t = 0
              · omega
              · have := (hI.2.1 t q).2.2
                omega
            have hvl := (hI.2.2.2.2.2.2.2.1 v List.mem_cons_self).1
            have hpw : w t = true → ord t = 0 → (v :: r).length < 400 ∧ wait.length < 400 := by
              intro q1 q2
              have hnt : t ∉ wait := fun q => (hd.2.2.1 t q).2.1 q2
              have n1 := nd_len n (t :: wait) (List.nodup_cons.mpr ⟨hnt, hd.2.1.1⟩) (fun x hx => (List.mem_cons.mp hx).elim (fun e => e ▸ htn) (fun e => (hd.2.2.1 x e).1))
              have n2 := nd_len n (t :: v :: r) (List.nodup_cons.mpr ⟨fun q => hnt (hd.2.2.2 t q), hd.1.1⟩) (fun x hx => (List.mem_cons.mp hx).elim (fun e => e ▸ htn) (fun e => (hd.2.2.1 x (hd.2.2.2 x e)).1))
              rw [List.length_cons] at n1 n2
              omega
            refine zw_aload_n dX4_walkFrom_62 rfl ?_
            refine zw_iload dX4_walkFrom_63 rfl ?_
            refine zw_aload_n dX4_walkFrom_65 rfl ?_
            refine zw_getR dX4_walkFrom_66 zfX4_28 rfl (xk_21 h) (by decide) (xg_4_5 h) ?_
            refine zw_iload dX4_walkFrom_69 rfl ?_
            refine zw_iaload dX4_walkFrom_71 (xk_27 h) (zin_of (xl_27 h) (vp_in_nI (by omega) (by omega))) ?_
            rw [nI_clamp (show v < 2 ^ 31 by omega), hnx]
            refine zw_callV (y' := zmX3_packedStep) dX4_walkFrom_72 zlX4_86 zmX3_packedStep_ok (xk_8 h) (by decide) rfl (c_X3_packedStep h g1 (show v < 400 by omega) hF1 (show fs v + nx v < zL σ pk by omega) g4) rfl rfl (Nat.le_of_ble_eq_true rfl) ⟨Nat.le_of_ble_eq_true rfl, Nat.le_of_ble_eq_true rfl⟩ ⟨Nat.le_of_ble_eq_true rfl, Nat.le_of_ble_eq_true rfl⟩ ?_
            intro v72 s72 q72
            obtain ⟨rfl, z72⟩ := q72
            rw [z72]
            clear z72
            refine zw_istore dX4_walkFrom_75 (by decide) rfl ?_
            refine zw_aload_n dX4_walkFrom_77 rfl ?_
            refine zw_getR dX4_walkFrom_78 zfX4_28 rfl (xk_21 h) (by decide) (xg_4_5 h) ?_
            refine zw_iload dX4_walkFrom_81 rfl ?_
            refine zw_dup2 dX4_walkFrom_83 rfl rfl ?_
            refine zw_iaload dX4_walkFrom_84 (xk_27 h) (zin_of (xl_27 h) (vp_in_nI (by omega) (by omega))) ?_
            rw [nI_clamp (show v < 2 ^ 31 by omega), hnx]
            refine zw_iconst (x := 1) dX4_walkFrom_85 rfl ?_
            refine zw_iadd dX4_walkFrom_86 ?_
            refine zw_iastore dX4_walkFrom_87 (xk_27 h) (by decide) (zin_of (xl_27 h) (vp_in_nI (by omega) (by omega))) ?_
            rw [nI_clamp (show v < 2 ^ 31 by omega), nI_1]
            refine zw_aload_n dX4_walkFrom_88 rfl ?_
            refine zw_iload dX4_walkFrom_89 rfl ?_
            refine zw_iload dX4_walkFrom_91 rfl ?_
            refine zw_iconst (x := 0) dX4_walkFrom_93 rfl ?_
            refine zw_callS (y' := zmX3_partOf) dX4_walkFrom_94 zlX4_90 zmX3_partOf_ok (c_X3_partOf _ _) rfl rfl (Nat.le_of_ble_eq_true rfl) ⟨Nat.le_of_ble_eq_true rfl, Nat.le_of_ble_eq_true rfl⟩ ⟨Nat.le_of_ble_eq_true rfl, Nat.le_of_ble_eq_true rfl⟩ ?_
            intro v94 s94 q94
            obtain ⟨rfl, z94⟩ := q94
            rw [z94]
            clear z94
            rw [hpt]
            refine zw_callV (y' := zmX4_follow) dX4_walkFrom_97 zlX4_93 zmX4_follow_ok (xk_21 h) (by decide) rfl (c_X4_follow (σ := zsI σ 27 v (nI (nx v + 1))) (en := en) (pl := (v :: r).length) (wl := wait.length) (wt := w t) (wa := decide (t ∈ wait)) (ot := ord t) (lv := low v) h hnx2.1.2.2 hnx2.1.1 hnx2.1.2.1 (show v < 400 by omega) (show t < 400 by omega) (hnx2.2.1 t htn).1 (hnx2.2.1 t htn).2.1 (hnx2.2.2.1 t htn) (hnx2.2.2.2.1 v hvn hvo).1 hto (by omega) hpw) rfl rfl (Nat.le_of_ble_eq_true rfl) ⟨Nat.le_of_ble_eq_true rfl, Nat.le_of_ble_eq_true rfl⟩ ⟨Nat.le_of_ble_eq_true rfl, Nat.le_of_ble_eq_true rfl⟩ ?_
            intro v97 s97 q97
            obtain ⟨rfl, z97⟩ := q97
            rw [z97]
            clear z97
            refine zw_goto (tgt := 134) dX4_walkFrom_100 (by decide) ?_
            refine zw_iinc dX4_walkFrom_134 rfl (by decide) rfl ?_
            refine zw_goto (tgt := 19) dX4_walkFrom_137 (by decide) ?_
            obtain ⟨path', hW⟩ := tW_follow hf hs hI hX hM ht htn
            refine zw_loc (lc' := [(0, .ref 21), (2, .ref 8), (3, .int ev), (4, .int (nI TT)), (5, .int (nI turn + 1))]) (zsub_cons rfl (zsub_cons rfl (zsub_cons rfl (zsub_cons rfl (zsub_cons rfl zsub_nil))))) ?_
            rw [nI_1]
            exact ih (turn + 1) path' _ (by omega) hW
set_option maxHeartbeats 4000000 in
set_option maxRecDepth 100000 in
theorem c_X4_walkFrom {l : Launch} {σ0 σ : zS} (h0 : xSh σ0) {pk n : Nat} {fs : Nat → Nat} {E : Nat → List Nat} {w : Nat → Bool} {M : Nat → Prop} {ev : Int32} (hgr : xGr σ0 pk n (fs n) fs E) (hT : fs n < 2 ^ 20) (hv1 : ∀ s, s < n → zI σ0 13 s &&& ev = 0 → E s = []) (hv2 : ∀ s, s < n → E s = [] → zI σ0 13 s = 0) (hf : xTf σ0 σ) {bad : Nat → Bool} {ord low nx : Nat → Nat} {en : Nat} (hs : xTs σ n w bad [] [] ord low nx en) (hI : tInv n E w [] [] ord low nx bad en) (hX : tEx n E ord nx [] en 0) (hM : ∀ x, M x → ord x ≠ 0) {s : Nat} (hsn : s < n) (hws : w s = true) (hos : ord s = 0) (hTf : zF σ0 3 9 8 = nI (fs n)) (hSf : zF σ0 3 8 8 = nI n) : zAM l zmX4_walkFrom 4 95 0 0 [.ref 21, .int (nI s), .ref 8, .int ev] σ (fun r σ' => r = none ∧ xWs σ0 σ' n E w (fun x => M x ∨ x = s) [] 0) := by
  refine zAM.of (by decide +kernel) (Nat.le_of_ble_eq_true rfl) ?_
  have h := hf.sh h0
  have g2 := hgr.2.1
  have f1 : xTf σ0 (xEnt σ s en 0 0) := hf.Ent
  have eT : zF (xEnt σ s en 0 0) 3 9 8 = nI (fs n) := (f1.2.2.2.2.2.2.1 3 9 8 (by decide)).trans hTf
  have eS : zF (xEnt σ s en 0 0) 3 8 8 = nI n := (f1.2.2.2.2.2.2.1 3 8 8 (by decide)).trans hSf
  have h1 := f1.sh h0
  refine zw_aload_n dX4_walkFrom_0 rfl ?_
  refine zw_iload_n dX4_walkFrom_1 rfl ?_
  refine zw_callV (y' := zmX4_enter) dX4_walkFrom_2 zlX4_76 zmX4_enter_ok (xk_21 h) (by decide) rfl (c_X4_enter (pl := 0) (wl := 0) h hs.1.2.2 hs.1.1 hs.1.2.1 (show (0:Nat) < 400 by decide) (show (0:Nat) < 400 by decide) (show s < 400 by omega)) rfl rfl (Nat.le_of_ble_eq_true rfl) ⟨Nat.le_of_ble_eq_true rfl, Nat.le_of_ble_eq_true rfl⟩ ⟨Nat.le_of_ble_eq_true rfl, Nat.le_of_ble_eq_true rfl⟩ ?_
  intro v2 s2 q2
  obtain ⟨rfl, z2⟩ := q2
  rw [z2]
  clear z2
  refine zw_aload_n dX4_walkFrom_5 rfl ?_
  refine zw_getI dX4_walkFrom_6 zfX4_80 rfl (xk_8 h1) (by decide) ?_
  refine zw_aload_n dX4_walkFrom_9 rfl ?_
  refine zw_getI dX4_walkFrom_10 zfX4_45 rfl (xk_8 h1) (by decide) ?_
  rw [eT, eS]
  refine zw_iadd dX4_walkFrom_13 ?_
  rw [nI_add]
  refine zw_istore dX4_walkFrom_14 (by decide) rfl ?_
  refine zw_iconst (x := 0) dX4_walkFrom_16 rfl ?_
  refine zw_istore dX4_walkFrom_17 (by decide) rfl ?_
  refine zw_loc (lc' := [(0, .ref 21), (2, .ref 8), (3, .int ev), (4, .int (nI (fs n + n))), (5, .int (nI 0))]) (zsub_cons rfl (zsub_cons rfl (zsub_cons rfl (zsub_cons rfl (zsub_cons rfl zsub_nil))))) (lp_walk h0 hgr hT hv1 hv2 (TT := fs n + n) rfl (fs n + n) 0 [s] _ (Nat.zero_add _) ⟨f1, [s], tU ord s (en + 1), tU low s (en + 1), tU nx s 0, bad, en + 1, xTs_enter hs, tInv_enter hI hsn hws hos nx (Or.inl ⟨rfl, fun _ h => (List.not_mem_nil h).elim⟩), tEx_enter0 hX hos hsn (en + 1) (by omega), fun x hx => ?_⟩)
  rw [tU_if]
  by_cases e : x = s
  · rw [if_pos e]; omega
  · rw [if_neg e]; exact hM x (hx.resolve_right e)
end
section
/-! Traps.begin, lookFor -/
theorem xTr_cg {σ σ' : zS} (h1 : zI σ' 18 = zI σ 18) (h2 : zI σ' 19 = zI σ 19) (h3 : zI σ' 20 = zI σ 20) (f : Nat) (k kn : Int32) : xTr σ' f k kn = xTr σ f k kn := by
  unfold xTr
  rw [h1, h2, h3]
theorem xKn_cg {σ σ' : zS} (h1 : zI σ' 18 = zI σ 18) (h2 : zI σ' 19 = zI σ 19) (h3 : zI σ' 20 = zI σ 20) (k : Int32) : ∀ (d f : Nat) (kn : Int32), xKn σ' k d f kn = xKn σ k d f kn
  | 0, _, _ => rfl
  | d + 1, f, kn => by rw [xKn, xKn, xTr_cg h1 h2 h3, xKn_cg h1 h2 h3 k d (f + 1)]
theorem xHold_cg {σ σ' : zS} (h1 : zI σ' 18 = zI σ 18) (h2 : zI σ' 19 = zI σ 19) (h3 : zI σ' 20 = zI σ 20) (f : Nat) (k : Int32) : xHold σ' f k = xHold σ f k := by
  unfold xHold
  rw [xKn_cg h1 h2 h3]
/-- what a look for traps leaves alone -/
def xTg (σ0 σ : zS) : Prop := zn σ = zn σ0 ∧ zK σ = zK σ0 ∧ zL σ = zL σ0 ∧ zG σ = zG σ0 ∧ zR σ = zR σ0 ∧ zJ σ = zJ σ0 ∧ (∀ c k a, c ≠ 4 → zF σ c k a = zF σ0 c k a) ∧ ∀ a, ¬ (22 ≤ a ∧ a ≤ 29) → zI σ a = zI σ0 a
theorem xTg.rf (σ : zS) : xTg σ σ := ⟨rfl, rfl, rfl, rfl, rfl, rfl, fun _ _ _ _ => rfl, fun _ _ => rfl⟩
theorem xTg.tr {σ0 σ σ' : zS} (h : xTg σ0 σ) (h' : xTg σ σ') : xTg σ0 σ' := by
  obtain ⟨a1, a2, a3, a4, a5, a6, a7, a8⟩ := h
  obtain ⟨b1, b2, b3, b4, b5, b6, b7, b8⟩ := h'
  exact ⟨b1.trans a1, b2.trans a2, b3.trans a3, b4.trans a4, b5.trans a5, b6.trans a6, fun c k a q => (b7 c k a q).trans (a7 c k a q), fun a q => (b8 a q).trans (a8 a q)⟩
theorem xTf.tg {σ0 σ : zS} (h : xTf σ0 σ) : xTg σ0 σ := by
  obtain ⟨a1, a2, a3, a4, a5, a6, a7, a8, -⟩ := h
  exact ⟨a1, a2, a3, a4, a5, a6, a7, a8⟩
theorem xTg.I {σ0 σ : zS} {a i : Nat} {x : Int32} (h : xTg σ0 σ) (h1 : 22 ≤ a) (h2 : a ≤ 29) : xTg σ0 (zsI σ a i x) := by
  refine h.tr ⟨rfl, rfl, rfl, rfl, rfl, rfl, fun _ _ _ _ => rfl, fun b hb => funext fun j => ?_⟩
  rw [zI_zsI, if_neg (fun q => hb (by rw [q.1]; exact ⟨h1, h2⟩))]
theorem xTg.F {σ0 σ : zS} {k a : Nat} {x : Int32} (h : xTg σ0 σ) : xTg σ0 (zsF σ 4 k a x) := by
  refine h.tr ⟨rfl, rfl, rfl, rfl, rfl, rfl, fun c k' a' hc => ?_, fun _ _ => rfl⟩
  rw [zF_zsF, if_neg (fun q => hc q.1)]
theorem xTg.sh {σ0 σ : zS} (h : xTg σ0 σ) (hs : xSh σ0) : xSh σ := by
  refine ⟨fun q hq => ?_, fun q hq => ?_, fun q hq => ?_⟩
  · rw [h.2.1]; exact hs.1 q hq
  · rw [h.2.2.1]; exact hs.2.1 q hq
  · rw [h.2.2.2.1]; exact hs.2.2 q hq
theorem xTg.gr {σ0 σ : zS} (h : xTg σ0 σ) {pk n T : Nat} {fs : Nat → Nat} {E : Nat → List Nat} (hg : xGr σ0 pk n T fs E) : xGr σ pk n T fs E := by
  obtain ⟨a1, a2, a3, a4, a5, a6, a7, a8⟩ := h
  obtain ⟨g1, g2, g3, g4, g5, g6, g7, g8⟩ := hg
  have hpk : ¬ (22 ≤ pk ∧ pk ≤ 29) := by rcases g1.2.2 with e | e <;> omega
  refine ⟨⟨by rw [a4]; exact g1.1, by rw [a2]; exact g1.2.1, g1.2.2⟩, g2, by rw [a3]; exact g3, by rw [a3]; exact g4, fun s hs => by rw [a8 14 (by decide)]; exact g5 s hs, g6, g7, fun s hs j t hj => ?_⟩
  rw [a8 pk hpk]
  exact g8 s hs j t hj
def xBe (σ0 σ : zS) (w : Nat → Bool) (m : Nat) : Prop := xTg σ0 σ ∧ ∀ t, t < m → zI σ 22 t = zb (w t) ∧ zI σ 23 t = 0 ∧ zI σ 24 t = 0 ∧ zI σ 25 t = 0
theorem xBe_step {σ0 σ : zS} {w : Nat → Bool} {m : Nat} (h : xBe σ0 σ w m) {x : Int32} (hx : x = zb (w m)) : xBe σ0 (zsI (zsI (zsI (zsI σ 22 m x) 23 m 0) 24 m 0) 25 m 0) w (m + 1) := by
  refine ⟨(((h.1.I (by decide) (by decide)).I (by decide) (by decide)).I (by decide) (by decide)).I (by decide) (by decide), fun t ht => ?_⟩
  have o : ∀ {σ : zS} {a i j b : Nat} {y : Int32}, a ≠ b → zI (zsI σ a i y) b j = zI σ b j := fun {σ a i j b y} q => by rw [zI_zsI, if_neg (fun z => q z.1.symm)]
  by_cases e : t = m
  · rw [e]
    refine ⟨?_, ?_, ?_, ?_⟩
    · rw [o (by decide), o (by decide), o (by decide), zI_zsI, if_pos ⟨rfl, rfl⟩]; exact hx
    · rw [o (by decide), o (by decide), zI_zsI, if_pos ⟨rfl, rfl⟩]
    · rw [o (by decide), zI_zsI, if_pos ⟨rfl, rfl⟩]
    · rw [zI_zsI, if_pos ⟨rfl, rfl⟩]
  · obtain ⟨b1, b2, b3, b4⟩ := h.2 t (by omega)
    refine ⟨?_, ?_, ?_, ?_⟩
    · rw [o (by decide), o (by decide), o (by decide), zI_zsI, if_neg (fun z => e z.2)]; exact b1
    · rw [o (by decide), o (by decide), zI_zsI, if_neg (fun z => e z.2), o (by decide)]; exact b2
    · rw [o (by decide), zI_zsI, if_neg (fun z => e z.2), o (by decide), o (by decide)]; exact b3
    · rw [zI_zsI, if_neg (fun z => e z.2), o (by decide), o (by decide), o (by decide)]; exact b4
theorem xBe_end {σ0 σ : zS} {w : Nat → Bool} {n : Nat} (h : xBe σ0 σ w n) : xTg σ0 (zsF (zsF (zsF (zsF σ 4 8 21 0) 4 9 21 0) 4 10 21 0) 4 12 21 0) ∧ xTs (zsF (zsF (zsF (zsF σ 4 8 21 0) 4 9 21 0) 4 10 21 0) 4 12 21 0) n w (fun _ => false) [] [] (fun _ => 0) (fun _ => 0) (fun _ => 0) 0 := by
  refine ⟨h.1.F.F.F.F, ⟨?_, ?_, ?_⟩, fun t ht => ?_, fun t ht => ?_, fun t ht q => absurd rfl q, fun R x hx => ?_, fun R x hx => ?_⟩
  · rw [zF_zsF, if_neg (by decide), zF_zsF, if_neg (by decide), zF_zsF, if_neg (by decide), zF_zsF, if_pos ⟨rfl, rfl, rfl⟩]; exact nI_0.symm
  · rw [zF_zsF, if_neg (by decide), zF_zsF, if_neg (by decide), zF_zsF, if_pos ⟨rfl, rfl, rfl⟩]; exact nI_0.symm
  · rw [zF_zsF, if_neg (by decide), zF_zsF, if_pos ⟨rfl, rfl, rfl⟩]; exact nI_0.symm
  · obtain ⟨b1, b2, b3, b4⟩ := h.2 t ht
    exact ⟨b1, b2, b3⟩
  · exact (h.2 t ht).2.2.2.trans nI_0.symm
  · exact absurd hx.length_le (by simp)
  · exact absurd hx.length_le (by simp)
/-- the traps looked for: what is told of the states -/
def tDone (n : Nat) (E : Nat → List Nat) (w bad : Nat → Bool) : Prop :=
  (∀ s, bad s = true → w s = true ∧ s < n ∧ tWit E w s) ∧ (∀ s, s < n → w s = true → (E s = [] → bad s = true) ∧ ∀ t, t ∈ E s → w t = true → bad t = true → bad s = true)
theorem xWs_done {σ0 σ : zS} {n : Nat} {E : Nat → List Nat} {w : Nat → Bool} {M : Nat → Prop} (h : xWs σ0 σ n E w M [] 0) (hM : ∀ s, s < n → w s = true → M s) : ∃ bad, (∀ t, t < n → zI σ 24 t = zb (bad t)) ∧ tDone n E w bad := by
  obtain ⟨hf, wait, ord, low, nx, bad, en, hs, hI, hX, hO⟩ := h
  have hw := tInv_end hI
  subst hw
  refine ⟨bad, fun t ht => (hs.2.1 t ht).2.2, fun s hb => ?_, fun s hs1 hw => ?_⟩
  · obtain ⟨c1, c2, c3⟩ := hI.2.2.2.2.2.2.2.2.2.2.2 s hb
    obtain ⟨d1, d2, d3⟩ := hI.2.1 s c1
    exact ⟨d2, d1, c3⟩
  · obtain ⟨c1, c2, c3⟩ := hI.2.2.2.2.2.2.2.2.2.2.1 s (hO s (hM s hs1 hw)) List.not_mem_nil
    exact ⟨c2, c3⟩
set_option maxHeartbeats 4000000 in
set_option maxRecDepth 100000 in
theorem lp_begin {l : Launch} {σ0 : zS} (h0 : xSh σ0) {n nf f : Nat} {w : Nat → Bool} (hn : n ≤ 400) (hS : zF σ0 3 8 8 = nI n) (hnf : xFz σ0 = nI nf) (hnf12 : nf ≤ 12) (hf : f < nf) (hw : ∀ s, s < n → w s = !xHold σ0 f (zI σ0 9 s)) : ∀ (d m : Nat) (σ : zS), m + d = n → xBe σ0 σ w m → zAW l zmX4_begin { frames := 3, cells := 0, slots := 0, locals := 70 } 3 [(0, .ref 21), (1, .int (nI f)), (2, .ref 8), (3, .ref 17), (4, .int (nI m))] [] σ 0 0 (fun r σ' => r = none ∧ xTg σ0 σ' ∧ xTs σ' n w (fun _ => false) [] [] (fun _ => 0) (fun _ => 0) (fun _ => 0) 0) := by
  intro d
  induction d with
  | zero =>
    intro m σ hmd hB
    have h := hB.1.sh h0
    have hSs : zF σ 3 8 8 = nI n := (hB.1.2.2.2.2.2.2.1 3 8 8 (by decide)).trans hS
    refine zw_iload dX4_begin_3 rfl ?_
    refine zw_aload_n dX4_begin_5 rfl ?_
    refine zw_getI dX4_begin_6 zfX4_45 rfl (xk_8 h) (by decide) ?_
    rw [hSs]
    refine zw_icmpge (tgt := 68) dX4_begin_9 (by decide) (fun c9 => ?_) (fun c9 => ?_)
    · refine zw_aload_n dX4_begin_68 rfl ?_
      refine zw_iconst (x := 0) dX4_begin_69 rfl ?_
      refine zw_putI dX4_begin_70 zfX4_64 rfl rfl ⟨rfl, rfl⟩ (xk_21 h) (by decide) ?_
      refine zw_aload_n dX4_begin_73 rfl ?_
      refine zw_iconst (x := 0) dX4_begin_74 rfl ?_
      refine zw_putI dX4_begin_75 zfX4_67 rfl rfl ⟨rfl, rfl⟩ (xk_21 h) (by decide) ?_
      refine zw_aload_n dX4_begin_78 rfl ?_
      refine zw_iconst (x := 0) dX4_begin_79 rfl ?_
      refine zw_putI dX4_begin_80 zfX4_70 rfl rfl ⟨rfl, rfl⟩ (xk_21 h) (by decide) ?_
      refine zw_aload_n dX4_begin_83 rfl ?_
      refine zw_iconst (x := 0) dX4_begin_84 rfl ?_
      refine zw_putI dX4_begin_85 zfX4_73 rfl rfl ⟨rfl, rfl⟩ (xk_21 h) (by decide) ?_
      refine zw_vret dX4_begin_88 rfl ?_
      obtain rfl : m = n := by omega
      exact ⟨rfl, xBe_end hB⟩
    · exact absurd (nI_le (show n ≤ m by omega) (by omega)) c9
  | succ d ih =>
    intro m σ hmd hB
    have h := hB.1.sh h0
    have hSs : zF σ 3 8 8 = nI n := (hB.1.2.2.2.2.2.2.1 3 8 8 (by decide)).trans hS
    have hFs : xFz σ = nI nf := (hB.1.2.2.2.2.2.2.1 0 3 17 (by decide)).trans hnf
    have hHs : xHold σ f (zI σ 9 m) = xHold σ0 f (zI σ0 9 m) := by rw [xHold_cg (hB.1.2.2.2.2.2.2.2 18 (by decide)) (hB.1.2.2.2.2.2.2.2 19 (by decide)) (hB.1.2.2.2.2.2.2.2 20 (by decide)), hB.1.2.2.2.2.2.2.2 9 (by decide)]
    have hwm := hw m (by omega)
    refine zw_iload dX4_begin_3 rfl ?_
    refine zw_aload_n dX4_begin_5 rfl ?_
    refine zw_getI dX4_begin_6 zfX4_45 rfl (xk_8 h) (by decide) ?_
    rw [hSs]
    refine zw_icmpge (tgt := 68) dX4_begin_9 (by decide) (fun c9 => ?_) (fun c9 => ?_)
    · exact absurd c9 (nI_ge (by omega) (by omega))
    · refine zw_aload_n dX4_begin_12 rfl ?_
      refine zw_getR dX4_begin_13 zfX4_9 rfl (xk_21 h) (by decide) (xg_4_0 h) ?_
      refine zw_iload dX4_begin_16 rfl ?_
      refine zw_aload_n dX4_begin_18 rfl ?_
      refine zw_iload_n dX4_begin_19 rfl ?_
      refine zw_aload_n dX4_begin_20 rfl ?_
      refine zw_iload dX4_begin_21 rfl ?_
      refine zw_callV (y' := zmX3_keyOf) dX4_begin_23 zlX4_54 zmX3_keyOf_ok (xk_8 h) (by decide) rfl (c_X3_keyOf h (show m < 400 by omega)) rfl rfl (Nat.le_of_ble_eq_true rfl) ⟨Nat.le_of_ble_eq_true rfl, Nat.le_of_ble_eq_true rfl⟩ ⟨Nat.le_of_ble_eq_true rfl, Nat.le_of_ble_eq_true rfl⟩ ?_
      intro v23 s23 q23
      obtain ⟨rfl, z23⟩ := q23
      rw [z23]
      clear z23
      refine zw_callV (y' := zmX0_isTrueIn) dX4_begin_26 zlX4_58 zmX0_isTrueIn_ok (xk_17 h) (by decide) rfl (c_X0_isTrueIn h hFs hnf12 hf _) rfl rfl (Nat.le_of_ble_eq_true rfl) ⟨Nat.le_of_ble_eq_true rfl, Nat.le_of_ble_eq_true rfl⟩ ⟨Nat.le_of_ble_eq_true rfl, Nat.le_of_ble_eq_true rfl⟩ ?_
      intro v26 s26 q26
      obtain ⟨rfl, z26⟩ := q26
      rw [z26]
      clear z26
      refine zw_ifne (tgt := 36) dX4_begin_29 (by decide) (fun c29 => ?_) (fun c29 => ?_)
      · refine zw_iconst (x := 0) dX4_begin_36 rfl ?_
        refine zw_bastore dX4_begin_37 (xk_22 h) rfl (zin_of (xl_22 h) (vp_in_nI (by omega) (by omega))) ?_
        rw [nI_clamp (show m < 2 ^ 31 by omega)]
        refine zw_aload_n dX4_begin_38 rfl ?_
        refine zw_getR dX4_begin_39 zfX4_15 rfl (xk_21 h) (by decide) (xg_4_1 h) ?_
        refine zw_iload dX4_begin_42 rfl ?_
        refine zw_iconst (x := 0) dX4_begin_44 rfl ?_
        refine zw_bastore dX4_begin_45 (xk_23 h) rfl (zin_of (xl_23 h) (vp_in_nI (by omega) (by omega))) ?_
        rw [nI_clamp (show m < 2 ^ 31 by omega)]
        refine zw_aload_n dX4_begin_46 rfl ?_
        refine zw_getR dX4_begin_47 zfX4_18 rfl (xk_21 h) (by decide) (xg_4_2 h) ?_
        refine zw_iload dX4_begin_50 rfl ?_
        refine zw_iconst (x := 0) dX4_begin_52 rfl ?_
        refine zw_bastore dX4_begin_53 (xk_24 h) rfl (zin_of (xl_24 h) (vp_in_nI (by omega) (by omega))) ?_
        rw [nI_clamp (show m < 2 ^ 31 by omega)]
        refine zw_aload_n dX4_begin_54 rfl ?_
        refine zw_getR dX4_begin_55 zfX4_21 rfl (xk_21 h) (by decide) (xg_4_3 h) ?_
        refine zw_iload dX4_begin_58 rfl ?_
        refine zw_iconst (x := 0) dX4_begin_60 rfl ?_
        refine zw_iastore dX4_begin_61 (xk_25 h) (by decide) (zin_of (xl_25 h) (vp_in_nI (by omega) (by omega))) ?_
        rw [nI_clamp (show m < 2 ^ 31 by omega)]
        refine zw_iinc dX4_begin_62 rfl (by decide) rfl ?_
        refine zw_goto (tgt := 3) dX4_begin_65 (by decide) ?_
        rw [hHs] at c29
        replace c29 := zb_1.mp c29
        rw [c29] at hwm
        refine zw_loc (lc' := [(0, .ref 21), (1, .int (nI f)), (2, .ref 8), (3, .ref 17), (4, .int (nI m + 1))]) (zsub_cons rfl (zsub_cons rfl (zsub_cons rfl (zsub_cons rfl (zsub_cons rfl zsub_nil))))) ?_
        rw [nI_1]
        exact ih (m + 1) _ (by omega) (xBe_step hB (x := 0) (by rw [hwm]; rfl))
      · refine zw_iconst (x := 1) dX4_begin_32 rfl ?_
        refine zw_goto (tgt := 37) dX4_begin_33 (by decide) ?_
        refine zw_bastore dX4_begin_37 (xk_22 h) rfl (zin_of (xl_22 h) (vp_in_nI (by omega) (by omega))) ?_
        rw [nI_clamp (show m < 2 ^ 31 by omega)]
        refine zw_aload_n dX4_begin_38 rfl ?_
        refine zw_getR dX4_begin_39 zfX4_15 rfl (xk_21 h) (by decide) (xg_4_1 h) ?_
        refine zw_iload dX4_begin_42 rfl ?_
        refine zw_iconst (x := 0) dX4_begin_44 rfl ?_
        refine zw_bastore dX4_begin_45 (xk_23 h) rfl (zin_of (xl_23 h) (vp_in_nI (by omega) (by omega))) ?_
        rw [nI_clamp (show m < 2 ^ 31 by omega)]
        refine zw_aload_n dX4_begin_46 rfl ?_
        refine zw_getR dX4_begin_47 zfX4_18 rfl (xk_21 h) (by decide) (xg_4_2 h) ?_
        refine zw_iload dX4_begin_50 rfl ?_
        refine zw_iconst (x := 0) dX4_begin_52 rfl ?_
        refine zw_bastore dX4_begin_53 (xk_24 h) rfl (zin_of (xl_24 h) (vp_in_nI (by omega) (by omega))) ?_
        rw [nI_clamp (show m < 2 ^ 31 by omega)]
        refine zw_aload_n dX4_begin_54 rfl ?_
        refine zw_getR dX4_begin_55 zfX4_21 rfl (xk_21 h) (by decide) (xg_4_3 h) ?_
        refine zw_iload dX4_begin_58 rfl ?_
        refine zw_iconst (x := 0) dX4_begin_60 rfl ?_
        refine zw_iastore dX4_begin_61 (xk_25 h) (by decide) (zin_of (xl_25 h) (vp_in_nI (by omega) (by omega))) ?_
        rw [nI_clamp (show m < 2 ^ 31 by omega)]
        refine zw_iinc dX4_begin_62 rfl (by decide) rfl ?_
        refine zw_goto (tgt := 3) dX4_begin_65 (by decide) ?_
        rw [hHs] at c29
        replace c29 := zb_0.mp c29
        rw [c29] at hwm
        refine zw_loc (lc' := [(0, .ref 21), (1, .int (nI f)), (2, .ref 8), (3, .ref 17), (4, .int (nI m + 1))]) (zsub_cons rfl (zsub_cons rfl (zsub_cons rfl (zsub_cons rfl (zsub_cons rfl zsub_nil))))) ?_
        rw [nI_1]
        exact ih (m + 1) _ (by omega) (xBe_step hB (x := 1) (by rw [hwm]; rfl))
set_option maxHeartbeats 4000000 in
set_option maxRecDepth 100000 in
theorem c_X4_begin {l : Launch} {σ0 : zS} (h0 : xSh σ0) {n nf f : Nat} {w : Nat → Bool} (hn : n ≤ 400) (hS : zF σ0 3 8 8 = nI n) (hnf : xFz σ0 = nI nf) (hnf12 : nf ≤ 12) (hf : f < nf) (hw : ∀ s, s < n → w s = !xHold σ0 f (zI σ0 9 s)) : zAM l zmX4_begin 3 70 0 0 [.ref 21, .int (nI f), .ref 8, .ref 17] σ0 (fun r σ' => r = none ∧ xTg σ0 σ' ∧ xTs σ' n w (fun _ => false) [] [] (fun _ => 0) (fun _ => 0) (fun _ => 0) 0) := by
  refine zAM.of (by decide +kernel) (Nat.le_of_ble_eq_true rfl) ?_
  refine zw_iconst (x := 0) dX4_begin_0 rfl ?_
  refine zw_istore dX4_begin_1 (by decide) rfl ?_
  refine zw_loc (lc' := [(0, .ref 21), (1, .int (nI f)), (2, .ref 8), (3, .ref 17), (4, .int (nI 0))]) (zsub_cons rfl (zsub_cons rfl (zsub_cons rfl (zsub_cons rfl (zsub_cons rfl zsub_nil))))) (lp_begin h0 hn hS hnf hnf12 hf hw n 0 σ0 (Nat.zero_add _) ⟨xTg.rf _, fun t ht => absurd ht (Nat.not_lt_zero _)⟩)
set_option maxHeartbeats 4000000 in
set_option maxRecDepth 100000 in
theorem lp_look {l : Launch} {σ0 : zS} (h0 : xSh σ0) {n f : Nat} {w : Nat → Bool} {pk : Nat} {fs : Nat → Nat} {E : Nat → List Nat} {ev : Int32} (hgr : xGr σ0 pk n (fs n) fs E) (hT : fs n < 2 ^ 20) (hv1 : ∀ s, s < n → zI σ0 13 s &&& ev = 0 → E s = []) (hv2 : ∀ s, s < n → E s = [] → zI σ0 13 s = 0) (hTf : zF σ0 3 9 8 = nI (fs n)) (hSf : zF σ0 3 8 8 = nI n) {Q : Option Value → zS → Prop} (hQ : ∀ σ', xTg σ0 σ' → zF σ' 4 11 21 = nI f → (∃ bad, (∀ t, t < n → zI σ' 24 t = zb (bad t)) ∧ tDone n E w bad) → Q none σ') : ∀ (d m : Nat) (σ : zS), m + d = n → xWs σ0 σ n E w (fun x => x < m ∧ w x = true) [] 0 → zAW l zmX4_lookFor { frames := 5, cells := 0, slots := 0, locals := 122 } 27 [(0, .ref 21), (1, .int (nI f)), (2, .ref 8), (5, .int (ev)), (6, .int (nI m))] [] σ 0 0 Q := by
  have hn := hgr.2.1
  intro d
  induction d with
  | zero =>
    intro m σ hmd hW
    have h := hW.1.sh h0
    have hSs : zF σ 3 8 8 = nI n := (hW.1.2.2.2.2.2.2.1 3 8 8 (by decide)).trans hSf
    refine zw_iload dX4_lookFor_27 rfl ?_
    refine zw_aload_n dX4_lookFor_29 rfl ?_
    refine zw_getI dX4_lookFor_30 zfX4_45 rfl (xk_8 h) (by decide) ?_
    rw [hSs]
    refine zw_icmpge (tgt := 71) dX4_lookFor_33 (by decide) (fun c33 => ?_) (fun c33 => ?_)
    · refine zw_aload_n dX4_lookFor_71 rfl ?_
      refine zw_iload_n dX4_lookFor_72 rfl ?_
      refine zw_putI dX4_lookFor_73 zfX4_37 rfl rfl ⟨rfl, rfl⟩ (xk_21 h) (by decide) ?_
      refine zw_vret dX4_lookFor_76 rfl ?_
      obtain rfl : m = n := by omega
      obtain ⟨bad, b1, b2⟩ := xWs_done hW (fun s q1 q2 => ⟨q1, q2⟩)
      exact hQ _ hW.1.tg.F (by rw [zF_zsF, if_pos ⟨rfl, rfl, rfl⟩]) ⟨bad, b1, b2⟩
    · exact absurd (nI_le (show n ≤ m by omega) (by omega)) c33
  | succ d ih =>
    intro m σ hmd hW
    have h := hW.1.sh h0
    have hSs : zF σ 3 8 8 = nI n := (hW.1.2.2.2.2.2.2.1 3 8 8 (by decide)).trans hSf
    obtain ⟨hf, wait, ord, low, nx, bad, en, hs, hI, hX, hM⟩ := id hW
    have hwt := tInv_end hI
    subst hwt
    have hm22 := (hs.2.1 m (by omega)).1
    have hm25 := hs.2.2.1 m (by omega)
    have hen := tEx_en hX
    have hom : ord m < 2 ^ 31 := by
      by_cases q : ord m = 0
      · omega
      · have := (hI.2.1 m q).2.2
        omega
    refine zw_iload dX4_lookFor_27 rfl ?_
    refine zw_aload_n dX4_lookFor_29 rfl ?_
    refine zw_getI dX4_lookFor_30 zfX4_45 rfl (xk_8 h) (by decide) ?_
    rw [hSs]
    refine zw_icmpge (tgt := 71) dX4_lookFor_33 (by decide) (fun c33 => ?_) (fun c33 => ?_)
    · exact absurd c33 (nI_ge (by omega) (by omega))
    · refine zw_aload_n dX4_lookFor_36 rfl ?_
      refine zw_getR dX4_lookFor_37 zfX4_9 rfl (xk_21 h) (by decide) (xg_4_0 h) ?_
      refine zw_iload dX4_lookFor_40 rfl ?_
      refine zw_baload dX4_lookFor_42 (xk_22 h) (zin_of (xl_22 h) (vp_in_nI (by omega) (by omega))) ?_
      rw [nI_clamp (show m < 2 ^ 31 by omega), hm22]
      refine zw_ifeq (tgt := 65) dX4_lookFor_43 (by decide) (fun c43 => ?_) (fun c43 => ?_)
      · refine zw_iinc dX4_lookFor_65 rfl (by decide) rfl ?_
        refine zw_goto (tgt := 27) dX4_lookFor_68 (by decide) ?_
        replace c43 := zb_0.mp c43
        refine zw_loc (lc' := [(0, .ref 21), (1, .int (nI f)), (2, .ref 8), (5, .int (ev)), (6, .int (nI m + 1))]) (zsub_cons rfl (zsub_cons rfl (zsub_cons rfl (zsub_cons rfl (zsub_cons rfl zsub_nil))))) ?_
        rw [nI_1]
        exact ih (m + 1) _ (by omega) ⟨hf, [], ord, low, nx, bad, en, hs, hI, hX, fun x ⟨x1, x2⟩ => hM x ⟨by
          have : x ≠ m := fun e => by rw [e, c43] at x2; exact absurd x2 (by decide)
          omega, x2⟩⟩
      · refine zw_aload_n dX4_lookFor_46 rfl ?_
        refine zw_getR dX4_lookFor_47 zfX4_21 rfl (xk_21 h) (by decide) (xg_4_3 h) ?_
        refine zw_iload dX4_lookFor_50 rfl ?_
        refine zw_iaload dX4_lookFor_52 (xk_25 h) (zin_of (xl_25 h) (vp_in_nI (by omega) (by omega))) ?_
        rw [nI_clamp (show m < 2 ^ 31 by omega), hm25]
        refine zw_ifne (tgt := 65) dX4_lookFor_53 (by decide) (fun c53 => ?_) (fun c53 => ?_)
        · refine zw_iinc dX4_lookFor_65 rfl (by decide) rfl ?_
          refine zw_goto (tgt := 27) dX4_lookFor_68 (by decide) ?_
          refine zw_loc (lc' := [(0, .ref 21), (1, .int (nI f)), (2, .ref 8), (5, .int (ev)), (6, .int (nI m + 1))]) (zsub_cons rfl (zsub_cons rfl (zsub_cons rfl (zsub_cons rfl (zsub_cons rfl zsub_nil))))) ?_
          rw [nI_1]
          exact ih (m + 1) _ (by omega) ⟨hf, [], ord, low, nx, bad, en, hs, hI, hX, fun x ⟨x1, x2⟩ => by
            by_cases e : x = m
            · rw [e]
              exact fun e2 => c53 (by rw [e2]; exact nI_0)
            · exact hM x ⟨by omega, x2⟩⟩
        · replace c43 := zb_1.mp c43
          have hom0 : ord m = 0 := (nI_eq hom (by omega)).mp (c53.trans nI_0.symm)
          refine zw_aload_n dX4_lookFor_56 rfl ?_
          refine zw_iload dX4_lookFor_57 rfl ?_
          refine zw_aload_n dX4_lookFor_59 rfl ?_
          refine zw_iload dX4_lookFor_60 rfl ?_
          refine zw_callV (y' := zmX4_walkFrom) dX4_lookFor_62 zlX4_50 zmX4_walkFrom_ok (xk_21 h) (by decide) rfl (c_X4_walkFrom (M := fun x => x < m ∧ w x = true) h0 hgr hT hv1 hv2 hf hs hI hX hM (show m < n by omega) c43 hom0 hTf hSf) rfl rfl (Nat.le_of_ble_eq_true rfl) ⟨Nat.le_of_ble_eq_true rfl, Nat.le_of_ble_eq_true rfl⟩ ⟨Nat.le_of_ble_eq_true rfl, Nat.le_of_ble_eq_true rfl⟩ ?_
          intro v62 s62 q62
          obtain ⟨rfl, hz1, wt2, o2, l2, x2, b2, e2, k1, k2, k3, k4⟩ := q62
          refine zw_iinc dX4_lookFor_65 rfl (by decide) rfl ?_
          refine zw_goto (tgt := 27) dX4_lookFor_68 (by decide) ?_
          refine zw_loc (lc' := [(0, .ref 21), (1, .int (nI f)), (2, .ref 8), (5, .int (ev)), (6, .int (nI m + 1))]) (zsub_cons rfl (zsub_cons rfl (zsub_cons rfl (zsub_cons rfl (zsub_cons rfl zsub_nil))))) ?_
          rw [nI_1]
          exact ih (m + 1) s62 (by omega) ⟨hz1, wt2, o2, l2, x2, b2, e2, k1, k2, k3, fun x ⟨x1, x2⟩ => k4 x (by
            by_cases e : x = m
            · exact Or.inr e
            · exact Or.inl ⟨by omega, x2⟩)⟩
set_option maxHeartbeats 4000000 in
set_option maxRecDepth 100000 in
theorem c_X4_lookFor {l : Launch} {σ0 : zS} (h0 : xSh σ0) {n nf f : Nat} {w : Nat → Bool} (hn : n ≤ 400) (hS : zF σ0 3 8 8 = nI n) (hnf : xFz σ0 = nI nf) (hnf12 : nf ≤ 12) (hf : f < nf) (hw : ∀ s, s < n → w s = !xHold σ0 f (zI σ0 9 s)) {pk : Nat} {fs : Nat → Nat} {E : Nat → List Nat} {pv : Int32} (hgr : xGr σ0 pk n (fs n) fs E) (hT : fs n < 2 ^ 20) (hv1 : ∀ s, s < n → zI σ0 13 s &&& ((1 <<< (pv &&& 31)) - 1) = 0 → E s = []) (hv2 : ∀ s, s < n → E s = [] → zI σ0 13 s = 0) (hTf : zF σ0 3 9 8 = nI (fs n)) (hSf : zF σ0 3 8 8 = nI n) (hq : zF σ0 4 11 21 ≠ nI f) : zAM l zmX4_lookFor 5 122 0 0 [.ref 21, .int (nI f), .ref 8, .ref 17, .int pv] σ0 (fun r σ' => r = none ∧ xTg σ0 σ' ∧ zF σ' 4 11 21 = nI f ∧ ∃ bad, (∀ t, t < n → zI σ' 24 t = zb (bad t)) ∧ tDone n E w bad) := by
  refine zAM.of (by decide +kernel) (Nat.le_of_ble_eq_true rfl) ?_
  refine zw_iload_n dX4_lookFor_0 rfl ?_
  refine zw_aload_n dX4_lookFor_1 rfl ?_
  refine zw_getI dX4_lookFor_2 zfX4_37 rfl (xk_21 h0) (by decide) ?_
  refine zw_icmpne (tgt := 9) dX4_lookFor_5 (by decide) (fun c5 => ?_) (fun c5 => ?_)
  · refine zw_aload_n dX4_lookFor_9 rfl ?_
    refine zw_iload_n dX4_lookFor_10 rfl ?_
    refine zw_aload_n dX4_lookFor_11 rfl ?_
    refine zw_aload_n dX4_lookFor_12 rfl ?_
    refine zw_callV (y' := zmX4_begin) dX4_lookFor_13 zlX4_41 zmX4_begin_ok (xk_21 h0) (by decide) rfl (c_X4_begin h0 hn hS hnf hnf12 hf hw) rfl rfl (Nat.le_of_ble_eq_true rfl) ⟨Nat.le_of_ble_eq_true rfl, Nat.le_of_ble_eq_true rfl⟩ ⟨Nat.le_of_ble_eq_true rfl, Nat.le_of_ble_eq_true rfl⟩ ?_
    intro v13 s13 q13
    obtain ⟨rfl, g1, g2⟩ := q13
    have h1 := g1.sh h0
    refine zw_iconst (x := 1) dX4_lookFor_16 rfl ?_
    refine zw_iload dX4_lookFor_17 rfl ?_
    refine zw_ishl dX4_lookFor_19 ?_
    refine zw_iconst (x := 1) dX4_lookFor_20 rfl ?_
    refine zw_isub dX4_lookFor_21 ?_
    refine zw_istore dX4_lookFor_22 (by decide) rfl ?_
    refine zw_iconst (x := 0) dX4_lookFor_24 rfl ?_
    refine zw_istore dX4_lookFor_25 (by decide) rfl ?_
    have hgr1 := g1.gr hgr
    have e13 : zI s13 13 = zI σ0 13 := g1.2.2.2.2.2.2.2 13 (by decide)
    refine zw_loc (lc' := [(0, .ref 21), (1, .int (nI f)), (2, .ref 8), (5, .int ((1 <<< (pv &&& 31)) - 1)), (6, .int (nI 0))]) (zsub_cons rfl (zsub_cons rfl (zsub_cons rfl (zsub_cons rfl (zsub_cons rfl zsub_nil))))) ?_
    exact lp_look (l := l) (f := f) (w := w) (ev := (1 <<< (pv &&& 31)) - 1) h1 hgr1 hT (by rw [e13]; exact hv1) (by rw [e13]; exact hv2) ((g1.2.2.2.2.2.2.1 3 9 8 (by decide)).trans hTf) ((g1.2.2.2.2.2.2.1 3 8 8 (by decide)).trans hSf) (fun σ' p1 p2 p3 => ⟨rfl, g1.tr p1, p2, p3⟩) n 0 s13 (Nat.zero_add _) ⟨xTf.rf _, [], fun _ => 0, fun _ => 0, fun _ => 0, fun _ => false, 0, g2, tInv_0 (fun _ => rfl) (fun _ => rfl), tEx_0 (fun _ => rfl), fun x ⟨x1, _⟩ => absurd x1 (Nat.not_lt_zero _)⟩
  · exact absurd c5.symm hq
set_option maxHeartbeats 4000000 in
set_option maxRecDepth 100000 in
theorem c_X4_lookFor_same {l : Launch} {σ0 : zS} (h0 : xSh σ0) {f : Nat} {pv : Int32} (hq : zF σ0 4 11 21 = nI f) : zAM l zmX4_lookFor 5 122 0 0 [.ref 21, .int (nI f), .ref 8, .ref 17, .int pv] σ0 (fun r σ' => r = none ∧ σ' = σ0) := by
  refine zAM.of (by decide +kernel) (Nat.le_of_ble_eq_true rfl) ?_
  refine zw_iload_n dX4_lookFor_0 rfl ?_
  refine zw_aload_n dX4_lookFor_1 rfl ?_
  refine zw_getI dX4_lookFor_2 zfX4_37 rfl (xk_21 h0) (by decide) ?_
  refine zw_icmpne (tgt := 9) dX4_lookFor_5 (by decide) (fun c5 => ?_) (fun c5 => ?_)
  · exact absurd hq.symm c5
  · refine zw_vret dX4_lookFor_8 rfl ?_
    exact ⟨rfl, rfl⟩
end
