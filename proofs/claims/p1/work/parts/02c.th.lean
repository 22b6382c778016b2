/-! what throws and handlers need: the texts, which exception is no other, which methods throw, which have tables -/
def zEx (k : UInt32) : String := if k = 0 then "java/lang/IllegalArgumentException" else if k = 1 then "java/lang/IllegalStateException" else "java/lang/IndexOutOfBoundsException"
def zExN : List String := ["java/lang/RuntimeException", "java/lang/Exception"]
def zST : List (Nat × String) := [(43, "a process has 1 to 8 locations"), (54, "there are 5 processes"), (64, "a greatest value is 1 to 9"), (66, "a variable begins with 0 to its greatest value"), (71, "there are 4 variables"), (83, "no such process"), (90, "no such location"), (92, "a hand is 0 to 9"), (97, "the process has 16 moves"), (107, "no such move"), (109, "the sort of a guard is 0 to 4"), (114, "no such variable"), (116, "the number of a guard is 0 to 9"), (124, "the sort of a deed is 0 to 2"), (126, "the number of a deed is -9 to 9"), (134, "what is 0 to 5"), (139, "there is no process"), (149, "no such state"), (166, "no such process or variable, or what is not 0 to 10"), (168, "no such step"), (170, "what is 0 to 4"), (181, "no such sort, process, variable, fact, location or value"), (186, "there are 12 facts"), (194, "no such fact"), (203, "it is unexplored"), (224, "index is 0 to 400"), (226, "what is 0 to 1")]
def zNCs : List (UInt32 × String) := [(0, "java/lang/IllegalStateException"), (0, "java/lang/IndexOutOfBoundsException"), (1, "java/lang/IllegalArgumentException"), (1, "java/lang/IndexOutOfBoundsException"), (2, "java/lang/IllegalArgumentException"), (2, "java/lang/IllegalStateException")]
def zXS (U : State) : Prop := (∀ q ∈ zST, ∃ sa, vk_R RX5 q.1 q.2 sa U) ∧ (∀ q ∈ zNCs, va_Nc (zEx q.1) q.2 U)
theorem zXS.moved {s U : State} (hW : s.WarmedH U.vm) (h : zXS s) : zXS U := ⟨fun q hq => by
  obtain ⟨sa, h1⟩ := h.1 q hq
  exact ⟨sa, vk_R.warm hW h1⟩, fun q hq => va_Nc.moved hW.alike (h.2 q hq)⟩
theorem zXS.same {s U : State} (hv : U.vm = s.vm) (h : zXS s) : zXS U := ⟨fun q hq => by
  obtain ⟨sa, h1⟩ := h.1 q hq
  exact ⟨sa, vk_R.same hv h1⟩, fun q hq => va_Nc.moved (by rw [hv]; exact Vm.Alike.refl s.vm) (h.2 q hq)⟩
def zTh (b0 : Nat) (U : State) (H : Heap) : Prop := vx_Zq Bundle.tN "UNASSIGNED_STACK" Bundle.steD (fun q => b0 < q) U H ∧ vx_Zq Bundle.tN "SUPPRESSED_SENTINEL" Bundle.listD (fun q => b0 < q) U H
theorem zTh.moved {b0 : Nat} {u U : State} {H : Heap} (hvm : u.vm.Alike U.vm) (h : zTh b0 u H) : zTh b0 U H := ⟨vx_Zq.moved hvm h.1, vx_Zq.moved hvm h.2⟩
theorem zTh.kept {b0 : Nat} {U : State} {H H1 : Heap} (h : zTh b0 U H) (hq : ∀ a : Nat, a < H.size → ¬ b0 < a → H1[a]? = H[a]?) : zTh b0 U H1 := ⟨h.1.kept hq, h.2.kept hq⟩
def zTHR : List MethodName := [yX5_addFact, yX5_addMove, yX5_addProcess, yX5_addVariable, yX5_count, yX5_deed, yX5_explore, yX5_guard, yX5_holds, yX5_isBad, yX5_leads, yX5_state, yX5_step, yX5_stuck, yX5_trapped, yX5_way, yX5_where]
def zHHs : List (MethodName × List (Nat × Nat × Nat × Nat)) := [(yL_addProcess, [(0, 9, 12, 13), (0, 9, 15, 15)]), (yL_addVariable, [(0, 10, 13, 13), (0, 10, 17, 15)]), (yL_addMove, [(0, 14, 17, 25), (0, 14, 21, 13), (0, 14, 25, 15)]), (yL_guard, [(0, 16, 19, 25), (0, 16, 23, 13)]), (yL_deed, [(0, 16, 19, 25), (0, 16, 23, 13)]), (yL_count, [(0, 9, 12, 25)]), (yL_explore, [(0, 8, 11, 15)]), (yL_state, [(0, 10, 13, 25)]), (yL_step, [(0, 12, 15, 25)]), (yL_addFact, [(0, 12, 15, 13), (0, 12, 19, 15)]), (yL_holds, [(0, 17, 20, 25)]), (yL_where, [(0, 10, 13, 25), (0, 10, 17, 15)]), (yL_stuck, [(0, 8, 11, 15)]), (yL_leads, [(0, 10, 13, 25), (0, 10, 17, 15)]), (yL_isBad, [(0, 17, 20, 25)]), (yL_trapped, [(0, 9, 12, 25), (0, 9, 15, 15)]), (yL_way, [(0, 12, 15, 25)])]
def zThW (own : String) (ik is ic : Nat) (k : UInt32) : Prop := own = RX5 ∧ (∃ tx, (is, tx) ∈ zST) ∧ Cond.classLink own ik (zEx k) ∈ zT ∧ Cond.initialized (zEx k) ∈ zT ∧ (∀ w ∈ vx_atS own ic (zEx k) zExN, w ∈ zT) ∧ Bundle.fit (zEx k) = true
set_option maxRecDepth 100000 in
theorem zThW_a0 : ∀ w ∈ vx_atS RX5 45 "java/lang/IllegalArgumentException" zExN, w ∈ lw_tbl ∧ goodWord w = true := by decide +kernel
theorem zThW_0 {is : Nat} (h : ∃ tx, (is, tx) ∈ zST) : zThW RX5 41 is 45 0 := ⟨rfl, h, zclX5_41, List.mem_filter.mpr ⟨by decide +kernel, by decide +kernel⟩, fun w hw => List.mem_filter.mpr (zThW_a0 w hw), by decide +kernel⟩
set_option maxRecDepth 100000 in
theorem zThW_a1 : ∀ w ∈ vx_atS RX5 56 "java/lang/IllegalStateException" zExN, w ∈ lw_tbl ∧ goodWord w = true := by decide +kernel
theorem zThW_1 {is : Nat} (h : ∃ tx, (is, tx) ∈ zST) : zThW RX5 52 is 56 1 := ⟨rfl, h, zclX5_52, List.mem_filter.mpr ⟨by decide +kernel, by decide +kernel⟩, fun w hw => List.mem_filter.mpr (zThW_a1 w hw), by decide +kernel⟩
set_option maxRecDepth 100000 in
theorem zThW_a2 : ∀ w ∈ vx_atS RX5 85 "java/lang/IndexOutOfBoundsException" zExN, w ∈ lw_tbl ∧ goodWord w = true := by decide +kernel
theorem zThW_2 {is : Nat} (h : ∃ tx, (is, tx) ∈ zST) : zThW RX5 81 is 85 2 := ⟨rfl, h, zclX5_81, List.mem_filter.mpr ⟨by decide +kernel, by decide +kernel⟩, fun w hw => List.mem_filter.mpr (zThW_a2 w hw), by decide +kernel⟩
def zHH (y : MethodName) : List (Nat × Nat × Nat × Nat) := ((zHHs.find? (fun q => decide (q.1 = y))).map (·.2)).getD []
/-- a throw of the exception number k begins at pc -/
def zThr (y : zM) (pc : Nat) (k : UInt32) : Prop := y.1 ∈ zTHR ∧ ∃ ik is ic : Nat, decode y.2.1 pc = .ok (.new ik, 3) ∧ decode y.2.1 (pc + 3) = .ok (.dup, 1) ∧ decode y.2.1 (pc + 4) = .ok (.ldc is, 2) ∧ decode y.2.1 (pc + 6) = .ok (.invokespecial ic, 3) ∧ decode y.2.1 (pc + 9) = .ok (.athrow, 1) ∧ zThW y.1.cls ik is ic k
