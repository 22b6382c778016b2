/-- a row of ints may be cloned: this word isn't a good one, so it is carried -/
def zXS (U : State) : Prop := va_Nw (.castable "[I" "java/lang/Cloneable") U
theorem va_Nw.same2 {w : Cond} {s U : State} (hv : U.vm = s.vm) (h : va_Nw w s) (hw : w.onTables = true := by rfl) : va_Nw w U := va_tabs hw hv.symm h
theorem zXS.moved {s U : State} (hW : s.WarmedH U.vm) (h : zXS s) : zXS U := va_Nw.warmC hW h
theorem zXS.same {s U : State} (hv : U.vm = s.vm) (h : zXS s) : zXS U := va_Nw.same2 hv h
def zTh (b0 : Nat) (U : State) (H : Heap) : Prop := (b0, U.vm, H.size) = (b0, U.vm, H.size)
theorem zTh.moved {b0 : Nat} {u U : State} {H : Heap} (hvm : u.vm.Alike U.vm) (h : zTh b0 u H) : zTh b0 U H := rfl
theorem zTh.kept {b0 : Nat} {U : State} {H H1 : Heap} (h : zTh b0 U H) (hq : ∀ a : Nat, a < H.size → ¬ b0 < a → H1[a]? = H[a]?) : zTh b0 U H1 := rfl
def zTHR : List MethodName := []
def zHHs : List (MethodName × List (Nat × Nat × Nat × Nat)) := []
def zThW (own : String) (ik is ic : Nat) (k : UInt32) : Prop := (own, ik, is, ic, k) ≠ (own, ik, is, ic, k)
def zHH (y : MethodName) : List (Nat × Nat × Nat × Nat) := ((zHHs.find? (fun q => decide (q.1 = y))).map (·.2)).getD []
/-- a method with a table of handlers -/
def zWh (y : zM) : List Cond := .codeWith y.1 y.2.1 y.2.2.1 y.2.2.2.1 (zHH y.1) :: zT
def zVH (y : zM) : Prop := (Cond.codeWith y.1 y.2.1 y.2.2.1 y.2.2.2.1 (zHH y.1) ∈ zT ∧ Cond.initialized y.1.cls ∈ zT ∧ Cond.static y.1 ∈ zT) ∧ y.1.cls ≠ "java/lang/invoke/MethodHandle" ∧ y.1.cls ≠ "java/lang/invoke/VarHandle" ∧ (parseMethodDescriptor y.1.desc).map (fun d => d.parameters.length) = some y.2.2.2.2
def zmL_law : zM := (yL_law, cL_law, 9, (some FieldType.boolean), 1)
/-- a throw of the exception number k begins at pc -/
def zThr (y : zM) (pc : Nat) (k : UInt32) : Prop := y.1 ∈ zTHR ∧ ∃ ik is ic : Nat, decode y.2.1 pc = .ok (.new ik, 3) ∧ decode y.2.1 (pc + 3) = .ok (.dup, 1) ∧ decode y.2.1 (pc + 4) = .ok (.ldc is, 2) ∧ decode y.2.1 (pc + 6) = .ok (.invokespecial ic, 3) ∧ decode y.2.1 (pc + 9) = .ok (.athrow, 1) ∧ zThW y.1.cls ik is ic k
