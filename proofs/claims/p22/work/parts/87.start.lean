/-! THE CLAIM OUT OF ONE WALK OF THE LAW'S BODY. Your part is whole_start (and what it stands on); all else here is the same for every law, but numbers. -/
def R_law : String := "FairCheckerLaw"
def lw_P (b : Addr) (xs : List Int32) (args : Array Value) (s : State) : Prop := args = #[.ref b] ∧ s.IntsAt b xs ∧ xs.length ≤ 260 ∧ (Jvm.Cond.and given_1 narrow_1).before args s = true
def lw_Q (_ : Array Value) (s : State) (o : Outcome) (t : State) : Prop := o = .returned (some (.int 1)) ∧ Framed s o t [] 600086 7301442
def lw_Z (below : List Frame) (a : Array Value) (s : State) : State → Prop := fun t => ∃ o, t.status = .running ∧ Ended t below o ∧ lw_Q a s o t
/-- the law's own end, with 1 on the stack, nothing written that was there before, its room as the claim has it -/
theorem lw_ret {p : Program} {l : Launch} {e : Env} {s : State} {m : MethodId} {below : List Frame} {meth : Method} {c : Code} {b : Nat} (hx : p.tables.exec = Jvm.exec) (hb : c.code = code) (hr : meth.sig.returnType = ret) (hlocks : meth.locks = false) {pc : Nat} {H : Heap} {ls : Array Slot} (hdg : decode code pc = .ok (.ireturn, 1)) : W p l e room_1 s m #[Value.ref b] below meth c H [] 600086 7301442 (lw_Z below #[Value.ref b] s) (F0 m pc ls [.int 1]) := by
  intro T hT X
  obtain ⟨fs, hret, hrun, hended, hW, hframe⟩ := X.leave (v := some (.int 1)) (hlocks := hlocks) (fun h => by rw [hr] at h; cases h)
  have hmeth' : T.vm.method? m = some meth := X.method'
  refine ⟨T.setFrames fs, ?_, .returned (some (.int 1)), hrun, hended, rfl, ⟨_, rfl⟩, hW, hframe⟩
  jvm_step X.here [X.here.top, hx, hb, hdg, hmeth', hr, ret, narrow_b1]
  (try refine ⟨rfl, ?_⟩); (try refine ⟨rfl, ?_⟩)
  first | (intro acts; rw [hret _ acts rfl rfl rfl]) | rw [hret _ _ rfl rfl rfl]
  exact Steps.refl _
/-- what holds at the law's entry: the machine, the code, the tables' words (any of lw_tbl by 'hts w (by decide +kernel)'), the script of L ints xs at the cell b, what the Statement gives of the start (any of its parts by flat_of_before) -/
def lw_At (p : Program) (s : State) (m : MethodId) (meth : Method) (c : Code) (b L : Nat) (xs : Nat → Int32) : Prop :=
  p.tables.exec = Jvm.exec ∧ c.code = code ∧ meth.sig.returnType = ret ∧ c.maxLocals = 19 ∧ s.vm.findClass R_law = some m.cls ∧ (∀ w ∈ lw_tbl, w.before #[Value.ref b] s = true) ∧ va_X b L xs s s.heap ∧ b < s.heap.size ∧ meth.locks = false ∧ (Jvm.Cond.and given_1 narrow_1).before #[Value.ref b] s = true
theorem s_inst : ∀ c, c < znC → Cond.instantiable (zcl c).1 (zcl c).2.2 ∈ lw_tbl := by decide +kernel
theorem s_ac0 : Cond.arrayClass FieldType.int ∈ lw_tbl := by decide +kernel
theorem s_ac1 : Cond.arrayClass FieldType.boolean ∈ lw_tbl := by decide +kernel
theorem s_ac2 : Cond.arrayClass FieldType.byte ∈ lw_tbl := by decide +kernel
theorem s_cl : Cond.castable "[I" "java/lang/Cloneable" ∈ lw_tbl := by decide +kernel
theorem s_arr {args : Array Value} {s : State} {ty : FieldType} (h : (Cond.arrayClass ty).before args s = true) (hty : ∀ cA, s.vm.findClass ("[" ++ ty.toString) = some cA → va_RA s cA ty) : ∃ cA, ArrOfT s cA ty ∧ va_RA s cA ty := by
  obtain ⟨cA, k, comp, h1, h2, h3⟩ := Cond.arrayClass_spec h
  exact ⟨cA, fun n z => ⟨(fun q e => (by cases e)), k, h2, comp, h3⟩, hty cA h1⟩
theorem s_ovr {args : Array Value} {s : State} {ty : FieldType} (h : (Cond.arrayOver (.array ty)).before args s = true) : ∃ cA, ArrOfT s cA (.array ty) ∧ va_RA s cA (.array ty) := by
  obtain ⟨comp, cA, k, h1, -, h3, h4, h5⟩ := arrayOverA_spec h
  exact ⟨cA, fun n z => ⟨(fun q e => (by cases e)), k, h3, comp, h4⟩, h5⟩
theorem s_arrs {args : Array Value} {s : State} (hts : ∀ w ∈ lw_tbl, w.before args s = true) : ∀ t, t < znA → ∃ cA, ArrOfT s cA (zAT t) ∧ va_RA s cA (zAT t) := by
  intro t ht
  match t, ht with
  | 0, _ => exact s_arr (hts _ s_ac0) (fun _ h => h)
  | 1, _ => exact s_arr (hts _ s_ac1) (fun _ h => h)
  | 2, _ => exact s_arr (hts _ s_ac2) (fun _ h => h)
  | 3, _ =>
    obtain ⟨comp, cA, k, h1, -, h3, h4, h5⟩ := Cond.arrayOver_spec (hts _ zov_3)
    exact ⟨cA, fun n z => ⟨(fun q e => (by cases e)), k, h3, comp, h4⟩, k, comp, h3, h4, h1, h5⟩
  | 4, _ => exact s_ovr (hts _ zov_4)
  | 5, _ => exact s_ovr (hts _ zov_5)
  | 6, _ => exact s_ovr (hts _ zov_6)
  | n + 7, h => exact absurd h (by unfold znA; omega)
theorem s_KK {args : Array Value} {s : State} (hts : ∀ w ∈ lw_tbl, w.before args s = true) : ∃ (D : va_G) (dt : Nat → ClassId), zKK D dt s := by
  have hz : ∀ w ∈ zT, w.before args s = true := fun w hw => hts w (List.mem_filter.mp hw).1
  have hkn : ∀ c, ∃ p : ClassId × (Nat → Nat), c < znC → u_Kn s (zcl c).1 (zcl c).2.1 (zcl c).2.2 p.1 p.2 := by
    intro c
    by_cases hc : c < znC
    · obtain ⟨hv1, hin, hty, hnm⟩ := zCl_all c hc
      obtain ⟨cC, iS, h⟩ := u_known hz hin (hts _ (s_inst c hc))
      exact ⟨(cC, iS), fun _ => h⟩
    · exact ⟨(0, fun _ => 0), fun h => absurd h hc⟩
  have har : ∀ t, ∃ cA, t < znA → ArrOfT s cA (zAT t) ∧ va_RA s cA (zAT t) := by
    intro t
    by_cases ht : t < znA
    · obtain ⟨cA, h⟩ := s_arrs hts t ht
      exact ⟨cA, fun _ => h⟩
    · exact ⟨0, fun h => absurd h ht⟩
  obtain ⟨f, hf⟩ := Classical.axiomOfChoice hkn
  obtain ⟨g, hg⟩ := Classical.axiomOfChoice har
  have hcl : ∀ c q, vwCl[c]? = some q → c < znC ∧ zcl c = q := by
    intro c q h
    refine ⟨(List.getElem?_eq_some_iff.mp h).1, ?_⟩
    show (vwCl[c]?).getD _ = q
    rw [h]
    rfl
  refine ⟨(fun c => (f c).1, fun c => (f c).2), g, ⟨fun c q h => ?_, fun t q h => ?_⟩, fun q hq => va_Nw.of rfl (hts _ (zNF_in q hq)), fun q hq => va_Nw.of rfl (hts _ (zNM_in q hq)), fun t ht => ?_, va_Nw.of rfl (hts _ s_cl)⟩
  · obtain ⟨h1, rfl⟩ := hcl c q h
    exact hf c h1
  · have ht : t < znA := by
      have := (List.getElem?_eq_some_iff.mp h).1
      simpa using this
    rw [List.getElem?_map, List.getElem?_range ht] at h
    cases h
    exact hg t ht
  · match t, ht with
    | 0, _ => trivial
    | 1, _ => trivial
    | 2, _ => trivial
    | 3, _ => exact va_AO.of (hts _ zov_3)
    | 4, _ => exact hts _ zov_4
    | 5, _ => exact hts _ zov_5
    | 6, _ => exact hts _ zov_6
    | n + 7, h => exact absurd h (by unfold znA; omega)
