/-! what throws and handlers need: the texts, which exception is no other, which methods throw, which have tables -/
def zEx (k : UInt32) : String := if k = 0 then "java/lang/IllegalArgumentException" else if k = 1 then "java/lang/IllegalStateException" else "java/lang/IndexOutOfBoundsException"
def zExN : List String := ["java/lang/RuntimeException", "java/lang/Exception"]
def zST : List (Nat × String) := [(43, "a process has 1 to 8 locations"), (54, "there are 5 processes"), (64, "a greatest value is 1 to 9"), (66, "a variable begins with 0 to its greatest value"), (71, "there are 4 variables"), (83, "no such process"), (90, "no such location"), (92, "a hand is 0 to 9"), (97, "the process has 16 moves"), (107, "no such move"), (109, "the sort of a guard is 0 to 4"), (114, "no such variable"), (116, "the number of a guard is 0 to 9"), (124, "the sort of a deed is 0 to 2"), (126, "the number of a deed is -9 to 9"), (134, "what is 0 to 5"), (139, "there is no process"), (149, "no such state"), (166, "no such process or variable, or what is not 0 to 10"), (168, "no such step"), (170, "what is 0 to 4"), (181, "no such sort, process, variable, fact, location or value"), (186, "there are 12 facts"), (194, "no such fact"), (203, "it is unexplored"), (224, "index is 0 to 400"), (226, "what is 0 to 1")]
def zNCs : List (UInt32 × String) := [(0, "java/lang/IllegalStateException"), (0, "java/lang/IndexOutOfBoundsException"), (1, "java/lang/IllegalArgumentException"), (1, "java/lang/IndexOutOfBoundsException"), (2, "java/lang/IllegalArgumentException"), (2, "java/lang/IllegalStateException")]
def zXC : List (String × String) := [("java/lang/IllegalArgumentException", "java/lang/IllegalArgumentException"), ("java/lang/IllegalStateException", "java/lang/IllegalStateException"), ("java/lang/IndexOutOfBoundsException", "java/lang/IndexOutOfBoundsException"), ("[I", "java/lang/Cloneable")]
def zXD : List MethodName := [⟨"java/lang/RuntimeException", "<init>", "()V"⟩, ⟨"java/lang/RuntimeException", "<init>", "(Ljava/lang/String;)V"⟩, ⟨"java/lang/Exception", "<init>", "()V"⟩, ⟨"java/lang/Exception", "<init>", "(Ljava/lang/String;)V"⟩, ⟨"java/lang/Throwable", "<init>", "()V"⟩, ⟨"java/lang/Throwable", "<init>", "(Ljava/lang/String;)V"⟩]
def zXW : List Cond := zXC.map (fun q => Cond.castable q.1 q.2) ++ zXD.map (fun x => Cond.declares x)
theorem zXW_in : ∀ w ∈ zXW, w ∈ lw_tbl := by decide +kernel
def zXS (U : State) : Prop := (∀ q ∈ zST, ∃ sa, vk_R RX5 q.1 q.2 sa U) ∧ (∀ q ∈ zNCs, va_Nc (zEx q.1) q.2 U) ∧ (∀ q ∈ zXC, va_Nw (.castable q.1 q.2) U) ∧ (∀ x ∈ zXD, va_Nw (.declares x) U)
theorem va_Nw.same2 {w : Cond} {s U : State} (hv : U.vm = s.vm) (h : va_Nw w s) (hw : w.onTables = true := by rfl) : va_Nw w U := va_tabs hw hv.symm h
theorem zXS.moved {s U : State} (hW : s.WarmedH U.vm) (h : zXS s) : zXS U := ⟨fun q hq => by
  obtain ⟨sa, h1⟩ := h.1 q hq
  exact ⟨sa, vk_R.warm hW h1⟩, fun q hq => va_Nc.moved hW.alike (h.2.1 q hq), fun q hq => va_Nw.warmC hW (h.2.2.1 q hq), fun x hx => va_Nw.warmD hW (h.2.2.2 x hx)⟩
theorem zXS.same {s U : State} (hv : U.vm = s.vm) (h : zXS s) : zXS U := ⟨fun q hq => by
  obtain ⟨sa, h1⟩ := h.1 q hq
  exact ⟨sa, vk_R.same hv h1⟩, fun q hq => va_Nc.moved (by rw [hv]; exact Vm.Alike.refl s.vm) (h.2.1 q hq), fun q hq => va_Nw.same2 hv (h.2.2.1 q hq), fun x hx => va_Nw.same2 hv (h.2.2.2 x hx)⟩
theorem zXS.word {U : State} (h : zXS U) {args : Array Value} : ∀ w ∈ zXW, w.before args U = true := fun w hw => by
  rcases List.mem_append.mp hw with hw | hw
  · obtain ⟨q, hq, rfl⟩ := List.mem_map.mp hw
    exact va_Nw.use rfl (h.2.2.1 q hq)
  · obtain ⟨x, hx, rfl⟩ := List.mem_map.mp hw
    exact va_Nw.use rfl (h.2.2.2 x hx)
def zTh (b0 : Nat) (U : State) (H : Heap) : Prop := vx_Zq Bundle.tN "UNASSIGNED_STACK" Bundle.steD (fun q => b0 < q) U H ∧ vx_Zq Bundle.tN "SUPPRESSED_SENTINEL" Bundle.listD (fun q => b0 < q) U H
theorem zTh.moved {b0 : Nat} {u U : State} {H : Heap} (hvm : u.vm.Alike U.vm) (h : zTh b0 u H) : zTh b0 U H := ⟨vx_Zq.moved hvm h.1, vx_Zq.moved hvm h.2⟩
theorem zTh.kept {b0 : Nat} {U : State} {H H1 : Heap} (h : zTh b0 U H) (hq : ∀ a : Nat, a < H.size → ¬ b0 < a → H1[a]? = H[a]?) : zTh b0 U H1 := ⟨h.1.kept hq, h.2.kept hq⟩
def zTHR : List MethodName := [yX5_addFact, yX5_addMove, yX5_addProcess, yX5_addVariable, yX5_count, yX5_deed, yX5_explore, yX5_guard, yX5_holds, yX5_isBad, yX5_leads, yX5_state, yX5_step, yX5_stuck, yX5_trapped, yX5_way, yX5_where]
def zHHs : List (MethodName × List (Nat × Nat × Nat × Nat)) := [(yL_addProcess, [(0, 9, 12, 13), (0, 9, 15, 15)]), (yL_addVariable, [(0, 10, 13, 13), (0, 10, 17, 15)]), (yL_addMove, [(0, 14, 17, 25), (0, 14, 21, 13), (0, 14, 25, 15)]), (yL_guard, [(0, 16, 19, 25), (0, 16, 23, 13)]), (yL_deed, [(0, 16, 19, 25), (0, 16, 23, 13)]), (yL_count, [(0, 9, 12, 25)]), (yL_explore, [(0, 8, 11, 15)]), (yL_state, [(0, 10, 13, 25)]), (yL_step, [(0, 12, 15, 25)]), (yL_addFact, [(0, 12, 15, 13), (0, 12, 19, 15)]), (yL_holds, [(0, 17, 20, 25)]), (yL_where, [(0, 10, 13, 25), (0, 10, 17, 15)]), (yL_stuck, [(0, 8, 11, 15)]), (yL_leads, [(0, 10, 13, 25), (0, 10, 17, 15)]), (yL_isBad, [(0, 17, 20, 25)]), (yL_trapped, [(0, 9, 12, 25), (0, 9, 15, 15)]), (yL_way, [(0, 12, 15, 25)])]
def zThW (own : String) (ik is ic : Nat) (k : UInt32) : Prop := own = RX5 ∧ (∃ tx, (is, tx) ∈ zST) ∧ Cond.classLink own ik (zEx k) ∈ zT ∧ Cond.initialized (zEx k) ∈ zT ∧ (∀ w ∈ vx_atS own ic (zEx k) zExN, w ∈ zT ∨ w ∈ zXW) ∧ Bundle.fit (zEx k) = true
set_option maxRecDepth 100000 in
theorem zThW_a0 : ∀ w ∈ vx_atS RX5 45 "java/lang/IllegalArgumentException" zExN, (w ∈ lw_tbl ∧ goodWord w = true) ∨ w ∈ zXW := by decide +kernel
theorem zThW_0 {is : Nat} (h : ∃ tx, (is, tx) ∈ zST) : zThW RX5 41 is 45 0 := ⟨rfl, h, zclX5_41, List.mem_filter.mpr ⟨by decide +kernel, by decide +kernel⟩, fun w hw => (zThW_a0 w hw).imp (fun h => List.mem_filter.mpr h) (fun h => h), by decide +kernel⟩
set_option maxRecDepth 100000 in
theorem zThW_a1 : ∀ w ∈ vx_atS RX5 56 "java/lang/IllegalStateException" zExN, (w ∈ lw_tbl ∧ goodWord w = true) ∨ w ∈ zXW := by decide +kernel
theorem zThW_1 {is : Nat} (h : ∃ tx, (is, tx) ∈ zST) : zThW RX5 52 is 56 1 := ⟨rfl, h, zclX5_52, List.mem_filter.mpr ⟨by decide +kernel, by decide +kernel⟩, fun w hw => (zThW_a1 w hw).imp (fun h => List.mem_filter.mpr h) (fun h => h), by decide +kernel⟩
set_option maxRecDepth 100000 in
theorem zThW_a2 : ∀ w ∈ vx_atS RX5 85 "java/lang/IndexOutOfBoundsException" zExN, (w ∈ lw_tbl ∧ goodWord w = true) ∨ w ∈ zXW := by decide +kernel
theorem zThW_2 {is : Nat} (h : ∃ tx, (is, tx) ∈ zST) : zThW RX5 81 is 85 2 := ⟨rfl, h, zclX5_81, List.mem_filter.mpr ⟨by decide +kernel, by decide +kernel⟩, fun w hw => (zThW_a2 w hw).imp (fun h => List.mem_filter.mpr h) (fun h => h), by decide +kernel⟩
def zHH (y : MethodName) : List (Nat × Nat × Nat × Nat) := ((zHHs.find? (fun q => decide (q.1 = y))).map (·.2)).getD []
/-- a method with a table of handlers -/
def zWh (y : zM) : List Cond := .codeWith y.1 y.2.1 y.2.2.1 y.2.2.2.1 (zHH y.1) :: zT
def zVH (y : zM) : Prop := (Cond.codeWith y.1 y.2.1 y.2.2.1 y.2.2.2.1 (zHH y.1) ∈ zT ∧ Cond.initialized y.1.cls ∈ zT ∧ Cond.static y.1 ∈ zT) ∧ y.1.cls ≠ "java/lang/invoke/MethodHandle" ∧ y.1.cls ≠ "java/lang/invoke/VarHandle" ∧ (parseMethodDescriptor y.1.desc).map (fun d => d.parameters.length) = some y.2.2.2.2
def zmL_addProcess : zM := (yL_addProcess, cL_addProcess, 4, (some FieldType.int), 3)
theorem zmL_addProcess_ok : zVH zmL_addProcess := ⟨⟨List.mem_filter.mpr ⟨by decide +kernel, by decide +kernel⟩, List.mem_filter.mpr ⟨by decide +kernel, by decide +kernel⟩, List.mem_filter.mpr ⟨by decide +kernel, by decide +kernel⟩⟩, by decide +kernel, by decide +kernel, by decide +kernel⟩
def zmL_addVariable : zM := (yL_addVariable, cL_addVariable, 5, (some FieldType.int), 4)
theorem zmL_addVariable_ok : zVH zmL_addVariable := ⟨⟨List.mem_filter.mpr ⟨by decide +kernel, by decide +kernel⟩, List.mem_filter.mpr ⟨by decide +kernel, by decide +kernel⟩, List.mem_filter.mpr ⟨by decide +kernel, by decide +kernel⟩⟩, by decide +kernel, by decide +kernel, by decide +kernel⟩
def zmL_addMove : zM := (yL_addMove, cL_addMove, 7, (some FieldType.int), 6)
theorem zmL_addMove_ok : zVH zmL_addMove := ⟨⟨List.mem_filter.mpr ⟨by decide +kernel, by decide +kernel⟩, List.mem_filter.mpr ⟨by decide +kernel, by decide +kernel⟩, List.mem_filter.mpr ⟨by decide +kernel, by decide +kernel⟩⟩, by decide +kernel, by decide +kernel, by decide +kernel⟩
def zmL_guard : zM := (yL_guard, cL_guard, 8, (some FieldType.int), 7)
theorem zmL_guard_ok : zVH zmL_guard := ⟨⟨List.mem_filter.mpr ⟨by decide +kernel, by decide +kernel⟩, List.mem_filter.mpr ⟨by decide +kernel, by decide +kernel⟩, List.mem_filter.mpr ⟨by decide +kernel, by decide +kernel⟩⟩, by decide +kernel, by decide +kernel, by decide +kernel⟩
def zmL_deed : zM := (yL_deed, cL_deed, 8, (some FieldType.int), 7)
theorem zmL_deed_ok : zVH zmL_deed := ⟨⟨List.mem_filter.mpr ⟨by decide +kernel, by decide +kernel⟩, List.mem_filter.mpr ⟨by decide +kernel, by decide +kernel⟩, List.mem_filter.mpr ⟨by decide +kernel, by decide +kernel⟩⟩, by decide +kernel, by decide +kernel, by decide +kernel⟩
def zmL_count : zM := (yL_count, cL_count, 4, (some FieldType.int), 3)
theorem zmL_count_ok : zVH zmL_count := ⟨⟨List.mem_filter.mpr ⟨by decide +kernel, by decide +kernel⟩, List.mem_filter.mpr ⟨by decide +kernel, by decide +kernel⟩, List.mem_filter.mpr ⟨by decide +kernel, by decide +kernel⟩⟩, by decide +kernel, by decide +kernel, by decide +kernel⟩
def zmL_explore : zM := (yL_explore, cL_explore, 3, (some FieldType.int), 2)
theorem zmL_explore_ok : zVH zmL_explore := ⟨⟨List.mem_filter.mpr ⟨by decide +kernel, by decide +kernel⟩, List.mem_filter.mpr ⟨by decide +kernel, by decide +kernel⟩, List.mem_filter.mpr ⟨by decide +kernel, by decide +kernel⟩⟩, by decide +kernel, by decide +kernel, by decide +kernel⟩
def zmL_state : zM := (yL_state, cL_state, 5, (some FieldType.int), 4)
theorem zmL_state_ok : zVH zmL_state := ⟨⟨List.mem_filter.mpr ⟨by decide +kernel, by decide +kernel⟩, List.mem_filter.mpr ⟨by decide +kernel, by decide +kernel⟩, List.mem_filter.mpr ⟨by decide +kernel, by decide +kernel⟩⟩, by decide +kernel, by decide +kernel, by decide +kernel⟩
def zmL_step : zM := (yL_step, cL_step, 6, (some FieldType.int), 5)
theorem zmL_step_ok : zVH zmL_step := ⟨⟨List.mem_filter.mpr ⟨by decide +kernel, by decide +kernel⟩, List.mem_filter.mpr ⟨by decide +kernel, by decide +kernel⟩, List.mem_filter.mpr ⟨by decide +kernel, by decide +kernel⟩⟩, by decide +kernel, by decide +kernel, by decide +kernel⟩
def zmL_addFact : zM := (yL_addFact, cL_addFact, 6, (some FieldType.int), 5)
theorem zmL_addFact_ok : zVH zmL_addFact := ⟨⟨List.mem_filter.mpr ⟨by decide +kernel, by decide +kernel⟩, List.mem_filter.mpr ⟨by decide +kernel, by decide +kernel⟩, List.mem_filter.mpr ⟨by decide +kernel, by decide +kernel⟩⟩, by decide +kernel, by decide +kernel, by decide +kernel⟩
def zmL_holds : zM := (yL_holds, cL_holds, 5, (some FieldType.int), 4)
theorem zmL_holds_ok : zVH zmL_holds := ⟨⟨List.mem_filter.mpr ⟨by decide +kernel, by decide +kernel⟩, List.mem_filter.mpr ⟨by decide +kernel, by decide +kernel⟩, List.mem_filter.mpr ⟨by decide +kernel, by decide +kernel⟩⟩, by decide +kernel, by decide +kernel, by decide +kernel⟩
def zmL_where : zM := (yL_where, cL_where, 5, (some FieldType.int), 4)
theorem zmL_where_ok : zVH zmL_where := ⟨⟨List.mem_filter.mpr ⟨by decide +kernel, by decide +kernel⟩, List.mem_filter.mpr ⟨by decide +kernel, by decide +kernel⟩, List.mem_filter.mpr ⟨by decide +kernel, by decide +kernel⟩⟩, by decide +kernel, by decide +kernel, by decide +kernel⟩
def zmL_stuck : zM := (yL_stuck, cL_stuck, 3, (some FieldType.int), 2)
theorem zmL_stuck_ok : zVH zmL_stuck := ⟨⟨List.mem_filter.mpr ⟨by decide +kernel, by decide +kernel⟩, List.mem_filter.mpr ⟨by decide +kernel, by decide +kernel⟩, List.mem_filter.mpr ⟨by decide +kernel, by decide +kernel⟩⟩, by decide +kernel, by decide +kernel, by decide +kernel⟩
def zmL_leads : zM := (yL_leads, cL_leads, 5, (some FieldType.int), 4)
theorem zmL_leads_ok : zVH zmL_leads := ⟨⟨List.mem_filter.mpr ⟨by decide +kernel, by decide +kernel⟩, List.mem_filter.mpr ⟨by decide +kernel, by decide +kernel⟩, List.mem_filter.mpr ⟨by decide +kernel, by decide +kernel⟩⟩, by decide +kernel, by decide +kernel, by decide +kernel⟩
def zmL_isBad : zM := (yL_isBad, cL_isBad, 5, (some FieldType.int), 4)
theorem zmL_isBad_ok : zVH zmL_isBad := ⟨⟨List.mem_filter.mpr ⟨by decide +kernel, by decide +kernel⟩, List.mem_filter.mpr ⟨by decide +kernel, by decide +kernel⟩, List.mem_filter.mpr ⟨by decide +kernel, by decide +kernel⟩⟩, by decide +kernel, by decide +kernel, by decide +kernel⟩
def zmL_trapped : zM := (yL_trapped, cL_trapped, 4, (some FieldType.int), 3)
theorem zmL_trapped_ok : zVH zmL_trapped := ⟨⟨List.mem_filter.mpr ⟨by decide +kernel, by decide +kernel⟩, List.mem_filter.mpr ⟨by decide +kernel, by decide +kernel⟩, List.mem_filter.mpr ⟨by decide +kernel, by decide +kernel⟩⟩, by decide +kernel, by decide +kernel, by decide +kernel⟩
def zmL_way : zM := (yL_way, cL_way, 6, (some FieldType.int), 5)
theorem zmL_way_ok : zVH zmL_way := ⟨⟨List.mem_filter.mpr ⟨by decide +kernel, by decide +kernel⟩, List.mem_filter.mpr ⟨by decide +kernel, by decide +kernel⟩, List.mem_filter.mpr ⟨by decide +kernel, by decide +kernel⟩⟩, by decide +kernel, by decide +kernel, by decide +kernel⟩
theorem zk2X5_240 : Cond.constantLong RX5 240 (397) ∈ zT := List.mem_filter.mpr ⟨by decide +kernel, by decide +kernel⟩
theorem zk2X5_253 : Cond.constantLong RX5 253 (31) ∈ zT := List.mem_filter.mpr ⟨by decide +kernel, by decide +kernel⟩
theorem zlL_78 : zLK RL 78 yL_addProcess := Or.inl (List.mem_filter.mpr ⟨by decide +kernel, by decide +kernel⟩)
theorem zlL_87 : zLK RL 87 yL_addVariable := Or.inl (List.mem_filter.mpr ⟨by decide +kernel, by decide +kernel⟩)
theorem zlL_91 : zLK RL 91 yL_addMove := Or.inl (List.mem_filter.mpr ⟨by decide +kernel, by decide +kernel⟩)
theorem zlL_95 : zLK RL 95 yL_guard := Or.inl (List.mem_filter.mpr ⟨by decide +kernel, by decide +kernel⟩)
theorem zlL_99 : zLK RL 99 yL_deed := Or.inl (List.mem_filter.mpr ⟨by decide +kernel, by decide +kernel⟩)
theorem zlL_102 : zLK RL 102 yL_count := Or.inl (List.mem_filter.mpr ⟨by decide +kernel, by decide +kernel⟩)
theorem zlL_105 : zLK RL 105 yL_explore := Or.inl (List.mem_filter.mpr ⟨by decide +kernel, by decide +kernel⟩)
theorem zlL_109 : zLK RL 109 yL_state := Or.inl (List.mem_filter.mpr ⟨by decide +kernel, by decide +kernel⟩)
theorem zlL_112 : zLK RL 112 yL_step := Or.inl (List.mem_filter.mpr ⟨by decide +kernel, by decide +kernel⟩)
theorem zlL_116 : zLK RL 116 yL_addFact := Or.inl (List.mem_filter.mpr ⟨by decide +kernel, by decide +kernel⟩)
theorem zlL_119 : zLK RL 119 yL_holds := Or.inl (List.mem_filter.mpr ⟨by decide +kernel, by decide +kernel⟩)
theorem zlL_122 : zLK RL 122 yL_where := Or.inl (List.mem_filter.mpr ⟨by decide +kernel, by decide +kernel⟩)
theorem zlL_126 : zLK RL 126 yL_stuck := Or.inl (List.mem_filter.mpr ⟨by decide +kernel, by decide +kernel⟩)
theorem zlL_129 : zLK RL 129 yL_leads := Or.inl (List.mem_filter.mpr ⟨by decide +kernel, by decide +kernel⟩)
theorem zlL_132 : zLK RL 132 yL_isBad := Or.inl (List.mem_filter.mpr ⟨by decide +kernel, by decide +kernel⟩)
theorem zlL_135 : zLK RL 135 yL_trapped := Or.inl (List.mem_filter.mpr ⟨by decide +kernel, by decide +kernel⟩)
theorem zlL_138 : zLK RL 138 yL_way := Or.inl (List.mem_filter.mpr ⟨by decide +kernel, by decide +kernel⟩)
theorem zk2X6_206 : Cond.constantLong RX6 206 (397) ∈ zT := List.mem_filter.mpr ⟨by decide +kernel, by decide +kernel⟩
theorem zk2X6_208 : Cond.constantLong RX6 208 (31) ∈ zT := List.mem_filter.mpr ⟨by decide +kernel, by decide +kernel⟩
theorem zHH_L_addProcess : zHH zmL_addProcess.1 = (0, 9, 12, 13) :: [(0, 9, 15, 15)] := by decide +kernel
theorem zHH_L_addVariable : zHH zmL_addVariable.1 = (0, 10, 13, 13) :: [(0, 10, 17, 15)] := by decide +kernel
theorem zHH_L_addMove : zHH zmL_addMove.1 = (0, 14, 17, 25) :: [(0, 14, 21, 13), (0, 14, 25, 15)] := by decide +kernel
theorem zHH_L_guard : zHH zmL_guard.1 = (0, 16, 19, 25) :: [(0, 16, 23, 13)] := by decide +kernel
theorem zHH_L_deed : zHH zmL_deed.1 = (0, 16, 19, 25) :: [(0, 16, 23, 13)] := by decide +kernel
theorem zHH_L_count : zHH zmL_count.1 = (0, 9, 12, 25) :: [] := by decide +kernel
theorem zHH_L_explore : zHH zmL_explore.1 = (0, 8, 11, 15) :: [] := by decide +kernel
theorem zHH_L_state : zHH zmL_state.1 = (0, 10, 13, 25) :: [] := by decide +kernel
theorem zHH_L_step : zHH zmL_step.1 = (0, 12, 15, 25) :: [] := by decide +kernel
theorem zHH_L_addFact : zHH zmL_addFact.1 = (0, 12, 15, 13) :: [(0, 12, 19, 15)] := by decide +kernel
theorem zHH_L_holds : zHH zmL_holds.1 = (0, 17, 20, 25) :: [] := by decide +kernel
theorem zHH_L_where : zHH zmL_where.1 = (0, 10, 13, 25) :: [(0, 10, 17, 15)] := by decide +kernel
theorem zHH_L_stuck : zHH zmL_stuck.1 = (0, 8, 11, 15) :: [] := by decide +kernel
theorem zHH_L_leads : zHH zmL_leads.1 = (0, 10, 13, 25) :: [(0, 10, 17, 15)] := by decide +kernel
theorem zHH_L_isBad : zHH zmL_isBad.1 = (0, 17, 20, 25) :: [] := by decide +kernel
theorem zHH_L_trapped : zHH zmL_trapped.1 = (0, 9, 12, 25) :: [(0, 9, 15, 15)] := by decide +kernel
theorem zHH_L_way : zHH zmL_way.1 = (0, 12, 15, 25) :: [] := by decide +kernel
theorem zcx_13 : Cond.classLink RL 13 (zEx 0) ∈ zT := List.mem_filter.mpr ⟨by decide +kernel, by decide +kernel⟩
theorem zca_0 : (zEx 0, zEx 0) ∈ zXC := by decide +kernel
theorem zcx_15 : Cond.classLink RL 15 (zEx 1) ∈ zT := List.mem_filter.mpr ⟨by decide +kernel, by decide +kernel⟩
theorem zca_1 : (zEx 1, zEx 1) ∈ zXC := by decide +kernel
theorem zcx_25 : Cond.classLink RL 25 (zEx 2) ∈ zT := List.mem_filter.mpr ⟨by decide +kernel, by decide +kernel⟩
theorem zca_2 : (zEx 2, zEx 2) ∈ zXC := by decide +kernel
def zmL_law : zM := (yL_law, cL_law, 9, (some FieldType.boolean), 1)
/-- a throw of the exception number k begins at pc -/
def zThr (y : zM) (pc : Nat) (k : UInt32) : Prop := y.1 ∈ zTHR ∧ ∃ ik is ic : Nat, decode y.2.1 pc = .ok (.new ik, 3) ∧ decode y.2.1 (pc + 3) = .ok (.dup, 1) ∧ decode y.2.1 (pc + 4) = .ok (.ldc is, 2) ∧ decode y.2.1 (pc + 6) = .ok (.invokespecial ic, 3) ∧ decode y.2.1 (pc + 9) = .ok (.athrow, 1) ∧ zThW y.1.cls ik is ic k
