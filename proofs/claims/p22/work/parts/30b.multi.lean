/-! multianewarray of two dimensions: the outer row first, then its N rows one behind another. The steps follow the proof of the library's own law of this instruction (Shelf42, MA1 and MA2), over names of this claim. -/
section ZU
variable {p : Program} {l : Launch} {e : Env} {R : Room} {s : State} {m : MethodId} {args : Array Value} {below : List Frame} {meth : Method} {c : Code}
def zu_in (comp : ClassId) (M : Nat) (dv : Value) : Cell := { cls := comp, slots := Array.replicate M dv, vm := .none }
def zu_out (c : ClassId) (N h0 : Nat) : Nat → Cell
  | 0 => { cls := c, slots := Array.replicate N .null, vm := .none }
  | i + 1 => (zu_out c N h0 i).setSlot i (.ref (h0 + 1 + i))
def zu_fill (s : State) (c comp : ClassId) (N M : Nat) (dv : Value) : Nat → State
  | 0 => s.pushCell (zu_out c N s.heap.size 0)
  | i + 1 => ((zu_fill s c comp N M dv i).pushCell (zu_in comp M dv)).setCell s.heap.size (zu_out c N s.heap.size (i + 1))
theorem zu_out_f (c : ClassId) (N h0 : Nat) : ∀ i, (zu_out c N h0 i).cls = c ∧ (zu_out c N h0 i).vm = .none ∧ (zu_out c N h0 i).slots.size = N
  | 0 => ⟨rfl, rfl, by simp [zu_out]⟩
  | i + 1 => by
    obtain ⟨a, b, d⟩ := zu_out_f c N h0 i
    exact ⟨by simp [zu_out, Cell.setSlot, a], by simp [zu_out, Cell.setSlot, b], by simp [zu_out, Cell.setSlot, d]⟩
theorem zu_fill_f (s : State) (c comp : ClassId) (N M : Nat) (dv : Value) : ∀ i, (zu_fill s c comp N M dv i).heap.size = s.heap.size + 1 + i ∧ (zu_fill s c comp N M dv i).heap[s.heap.size]? = some (zu_out c N s.heap.size i) ∧
    (zu_fill s c comp N M dv i).vm = s.vm ∧ (zu_fill s c comp N M dv i).slotsUsed = s.slotsUsed + N + i * M
  | 0 => ⟨by simp [zu_fill], by simp [zu_fill], rfl, by simp [zu_fill, zu_out]⟩
  | i + 1 => by
    obtain ⟨a, b, d, u⟩ := zu_fill_f s c comp N M dv i
    have hlt : s.heap.size < (zu_fill s c comp N M dv i).heap.size := by omega
    have hb' : ((zu_fill s c comp N M dv i).pushCell (zu_in comp M dv)).heap[s.heap.size]? = some (zu_out c N s.heap.size i) := by rw [State.heap_pushCell_of_lt (h := hlt)]; exact b
    refine ⟨?_, State.heap_setCell_self hb', by simp [zu_fill, d], ?_⟩
    · simp [zu_fill, State.setCell, a]; omega
    · simp [zu_fill, u, zu_in, Nat.succ_mul]; omega
theorem zu_fill_top (s : State) (f : JFrame) (c comp : ClassId) (N M : Nat) (dv : Value) : ∀ i, zu_fill (s.setTop f) c comp N M dv i = (zu_fill s c comp N M dv i).setTop f
  | 0 => rfl
  | i + 1 => by simp only [zu_fill, zu_fill_top s f c comp N M dv i, State.heap_setTop, State.pushCell_setTop, State.setCell_setTop]
theorem zu_old (s : State) (c comp : ClassId) (N M : Nat) (dv : Value) {a : Addr} (ha : a < s.heap.size) : ∀ i, (zu_fill s c comp N M dv i).heap[a]? = s.heap[a]?
  | 0 => State.heap_pushCell_of_lt _ _ ha
  | i + 1 => by
    have f1 := (zu_fill_f s c comp N M dv i).1
    have hlt : a < (zu_fill s c comp N M dv i).heap.size := Nat.lt_of_lt_of_le ha (by rw [f1]; omega)
    show (((zu_fill s c comp N M dv i).pushCell (zu_in comp M dv)).setCell s.heap.size _).heap[a]? = _
    rw [State.heap_setCell_other (Nat.ne_of_gt ha), State.heap_pushCell_of_lt (h := hlt)]
    exact zu_old s c comp N M dv ha i
theorem zu_inner (s : State) (c comp : ClassId) (N M : Nat) (dv : Value) : ∀ i j, j < i → (zu_fill s c comp N M dv i).heap[s.heap.size + 1 + j]? = some (zu_in comp M dv)
  | 0, _, h => absurd h (Nat.not_lt_zero _)
  | i + 1, j, h => by
    have f1 := (zu_fill_f s c comp N M dv i).1
    show (((zu_fill s c comp N M dv i).pushCell (zu_in comp M dv)).setCell s.heap.size _).heap[s.heap.size + 1 + j]? = _
    rw [State.heap_setCell_other (show s.heap.size ≠ s.heap.size + 1 + j by omega)]
    rcases Nat.lt_or_ge j i with hj | hj
    · have hlt : s.heap.size + 1 + j < (zu_fill s c comp N M dv i).heap.size := by rw [f1]; omega
      rw [State.heap_pushCell_of_lt (h := hlt)]
      exact zu_inner s c comp N M dv i j hj
    · have e : j = i := by omega
      subst e
      rw [← f1]
      exact State.heap_pushCell_size _ _
theorem zu_slot (c : ClassId) (N h0 : Nat) : ∀ i j, j < N → (zu_out c N h0 i).slots[j]? = some (if j < i then .ref (h0 + 1 + j) else .null)
  | 0, j, h => by simp [zu_out, h]
  | i + 1, j, h => by
    have ih := zu_slot c N h0 i j h
    have hs := (zu_out_f c N h0 i).2.2
    show ((zu_out c N h0 i).setSlot i (.ref (h0 + 1 + i))).slots[j]? = _
    simp only [Cell.setSlot, Array.getElem?_setIfInBounds]
    by_cases e : i = j
    · subst e; simp [hs, h]
    · rw [if_neg e, ih]
      by_cases hj : j < i
      · rw [if_pos hj, if_pos (by omega)]
      · rw [if_neg hj, if_neg (by omega)]
section
variable {E : Jvm.CtlPost} {d : Bool} {acts : List Action}
theorem zu_wpN {c comp : ClassId} {k : Class} {type : FieldType} {len : Nat} {init : Value} (hk : s.vm.classes[c]? = some k) (hkind : k.kind = .array comp type)
    (hlimit : ¬ len > e.platform.arrayLengthLimit) (hheap : ¬ len * componentBytes type > e.platform.maxHeapBytes) (hfit : fits type init = true) (hdef : init.isDefault = true) {Q : Addr → Jvm.Pre}
    (h1 : s.heap.size < e.platform.maxCells) (h2 : s.slotsUsed + len ≤ e.platform.maxSlots)
    (hq : Q s.heap.size d acts (s.pushCell { cls := c, slots := Array.replicate len init, vm := .none })) :
    Sem.wp (Jvm.newArray c len init) Q E e d acts s := by
  have hfits : ∀ i v, (Array.replicate len init)[i]? = some v → s.fitsSlot c .none i v = true := by
    intro i v hv
    simp only [Array.getElem?_replicate] at hv
    split at hv
    · cases hv; simp [State.fitsSlot, State.slotType?, hk, hkind, hfit]
    · cases hv
  have hda : allocActs (Array.replicate len init) s.heap.size acts = acts := by
    have hall : ((Array.replicate len init).all (·.isDefault)) = true := by
      rw [Array.all_replicate]; split <;> simp [hdef]
    unfold allocActs; rw [if_pos hall]
  simp only [Jvm.newArray, Jvm.arrayFits, wp_bind', W.ask, W.ite, hlimit, if_false, wp_pure', W.theClass, hk, hkind, hheap, W.alloc, W.stop, Option.some.injEq, exists_eq_left', Array.size_replicate, hda]
  rw [if_neg (by omega)]
  exact ⟨h1, h2, hfits, hq⟩
theorem zu_rf {t : FieldType} (h : t.isReference = true) (v : Value) (hv : v = .null ∨ ∃ a, v = .ref a) : fits t v = true := by
  rcases hv with rfl | ⟨a, rfl⟩ <;> cases t <;> simp [FieldType.isReference] at h <;> rfl
theorem zu_wp1 {comp cc : ClassId} {kc : Class} {type : FieldType} {m : Int32} (hkc : s.vm.classes[comp]? = some kc) (hkindc : kc.kind = .array cc type) (hm : ¬ m < 0)
    (hl2 : ¬ m.toNatClampNeg > e.platform.arrayLengthLimit) (hh2 : ¬ m.toNatClampNeg * componentBytes type > e.platform.maxHeapBytes)
    (hdf : fits type (defaultValue type) = true) (hdd : (defaultValue type).isDefault = true)
    (h1 : s.heap.size < e.platform.maxCells) (h2 : s.slotsUsed + m.toNatClampNeg ≤ e.platform.maxSlots)
    {Q : Addr → Jvm.Pre} (hq : Q s.heap.size d acts (s.pushCell (zu_in comp m.toNatClampNeg (defaultValue type)))) :
    Sem.wp (Op.multianewarray.make comp [m]) Q E e d acts s := by
  rw [Op.multianewarray.make]
  simp only [wp_bind', W.ite, hm, if_false, wp_pure', W.theClass, hkc, hkindc, Option.some.injEq, exists_eq_left']
  exact zu_wpN hkc hkindc hl2 hh2 hdf hdd h1 h2 hq
theorem zu_wp2 {c comp cc : ClassId} {k kc : Class} {t0 type : FieldType} {n m : Int32} (hk : s.vm.classes[c]? = some k) (hkind : k.kind = .array comp t0) (href : t0.isReference = true)
    (hkc : s.vm.classes[comp]? = some kc) (hkindc : kc.kind = .array cc type) (hn : ¬ n < 0) (hm : ¬ m < 0)
    (hl1 : ¬ n.toNatClampNeg > e.platform.arrayLengthLimit) (hh1 : ¬ n.toNatClampNeg * componentBytes t0 > e.platform.maxHeapBytes)
    (hl2 : ¬ m.toNatClampNeg > e.platform.arrayLengthLimit) (hh2 : ¬ m.toNatClampNeg * componentBytes type > e.platform.maxHeapBytes)
    (hdf : fits type (defaultValue type) = true) (hdd : (defaultValue type).isDefault = true)
    (hc : s.heap.size + 1 + n.toNatClampNeg ≤ e.platform.maxCells) (hs : s.slotsUsed + n.toNatClampNeg + n.toNatClampNeg * m.toNatClampNeg ≤ e.platform.maxSlots)
    {Q : Addr → Jvm.Pre} (hq : ∀ d' acts', Q s.heap.size d' acts' (zu_fill s c comp n.toNatClampNeg m.toNatClampNeg (defaultValue type) n.toNatClampNeg)) :
    Sem.wp (Op.multianewarray.make c [n, m]) Q E e d acts s := by
  have hfind : ([m].find? (· < 0)) = none := by simp [hm]
  rw [Op.multianewarray.make]
  simp only [wp_bind', W.ite, hn, if_false, wp_pure', W.theClass, hk, hkind, Option.some.injEq, exists_eq_left']
  refine zu_wpN hk hkind hl1 hh1 (zu_rf href _ (Or.inl rfl)) rfl (by omega) (by have := Nat.zero_le (n.toNatClampNeg * m.toNatClampNeg); omega) ?_
  simp only [hfind]
  rw [ite_self, wp_bind', Std.Legacy.Range.forIn_eq_forIn_range']
  have hsz : ([:n.toNatClampNeg] : Std.Legacy.Range).size = n.toNatClampNeg := by simp [Std.Legacy.Range.size]
  rw [hsz]
  show Sem.wp (forIn (List.range' 0 n.toNatClampNeg 1) PUnit.unit _) _ E e d acts _
  refine wp_forIn_inv (fun rest s' => ∃ i, i ≤ n.toNatClampNeg ∧ rest = List.range' i (n.toNatClampNeg - i) ∧ s' = zu_fill s c comp n.toNatClampNeg m.toNatClampNeg (defaultValue type) i) _ _ ⟨0, Nat.zero_le _, rfl, rfl⟩ ?_ ?_
  · rintro x rest s' d' acts' Q' ⟨i, hi, hl, rfl⟩ hnext
    have hlt : i < n.toNatClampNeg := by
      rcases Nat.lt_or_ge i n.toNatClampNeg with h | h
      · exact h
      · rw [show n.toNatClampNeg - i = 0 from by omega] at hl; simp at hl
    obtain ⟨rfl, hrest⟩ : x = i ∧ rest = List.range' (i + 1) (n.toNatClampNeg - (i + 1)) := by
      rw [show n.toNatClampNeg - i = (n.toNatClampNeg - (i + 1)) + 1 from by omega, List.range'_succ] at hl
      exact ⟨(List.cons.inj hl).1, (List.cons.inj hl).2⟩
    obtain ⟨f1, f2, f3, f4⟩ := zu_fill_f s c comp n.toNatClampNeg m.toNatClampNeg (defaultValue type) x
    obtain ⟨o1, o2, o3⟩ := zu_out_f c n.toNatClampNeg s.heap.size x
    have hmul : x * m.toNatClampNeg + m.toNatClampNeg ≤ n.toNatClampNeg * m.toNatClampNeg := by
      have := Nat.mul_le_mul_right m.toNatClampNeg (show x + 1 ≤ n.toNatClampNeg from hlt)
      rw [Nat.succ_mul] at this; exact this
    simp only [wp_bind']
    refine zu_wp1 (by rw [f3]; exact hkc) hkindc hm hl2 hh2 hdf hdd (by rw [f1]; omega) (by rw [f4]; omega) ?_
    have hlt0 : s.heap.size < (zu_fill s c comp n.toNatClampNeg m.toNatClampNeg (defaultValue type) x).heap.size := by rw [f1]; omega
    simp only [wp_bind', W.writeLoc, wp_pure']
    refine ⟨zu_out c n.toNatClampNeg s.heap.size x, by rw [State.heap_pushCell_of_lt (h := hlt0)]; exact f2, by rw [o2]; simp, by rw [o3]; exact hlt, ?_, hnext _ _ _ ⟨x + 1, hlt, hrest, ?_⟩⟩
    · rw [o1, o2]
      simp [State.fitsSlot, State.slotType?, f3, hk, hkind, zu_rf href _ (Or.inr ⟨_, rfl⟩)]
    · rw [f1]; rfl
  · rintro s' d' acts' ⟨i, hi, hl, rfl⟩
    have hiN : i = n.toNatClampNeg := by
      rcases Nat.lt_or_ge i n.toNatClampNeg with h | h
      · rw [show n.toNatClampNeg - i = (n.toNatClampNeg - (i + 1)) + 1 from by omega, List.range'_succ] at hl; cases hl
      · omega
    subst hiN
    simp only [wp_pure']
    exact hq _ _
end
theorem zu_filled {T : State} {locs : List Loc} {cells slots : Nat} (X : Stand p l e R s m args below meth c T locs cells slots) (cA comp : ClassId) (N M : Nat) (dv : Value) :
    ∀ i, Stand p l e R s m args below meth c (zu_fill T cA comp N M dv i) (locs ++ (List.range i).map fun j => ⟨T.heap.size, j⟩) (cells + 1 + i) (slots + N + i * M)
  | 0 => by
    have h := X.pushed (zu_out cA N T.heap.size 0)
    rw [(zu_out_f cA N T.heap.size 0).2.2] at h
    simpa [zu_fill] using h
  | i + 1 => by
    have Xi := zu_filled X cA comp N M dv i
    obtain ⟨f1, f2, f3, f4⟩ := zu_fill_f T cA comp N M dv i
    have hlt0 : T.heap.size < (zu_fill T cA comp N M dv i).heap.size := by rw [f1]; omega
    have hcell : ((zu_fill T cA comp N M dv i).pushCell (zu_in comp M dv)).heap[T.heap.size]? = some (zu_out cA N T.heap.size i) := by rw [State.heap_pushCell_of_lt (h := hlt0)]; exact f2
    have h := (Xi.pushed (zu_in comp M dv)).stored hcell i (.ref (T.heap.size + 1 + i))
    have e1 : (zu_in comp M dv).slots.size = M := by simp [zu_in]
    rw [e1] at h
    have e2 : (locs ++ (List.range (i + 1)).map fun j => (⟨T.heap.size, j⟩ : Loc)) = (locs ++ (List.range i).map fun j => (⟨T.heap.size, j⟩ : Loc)) ++ [⟨T.heap.size, i⟩] := by simp [List.range_succ, List.append_assoc]
    have e3 : slots + N + (i + 1) * M = slots + N + i * M + M := by rw [Nat.succ_mul]; omega
    rw [e2, e3]
    exact h
/-- the row of multianewarray, at the machine -/
theorem zz_multi {cc : ByteArray} {pc N M : Nat} {H : Heap} {locs : List Loc} {cells slots : Nat} {ls : Array Slot} {rest : List Value} {Q : State → Prop} (hexec : p.tables.exec = Jvm.exec) (hb : c.code = cc) {own : String} {index : Nat} {ty : FieldType}
    (hown : s.vm.findClass own = some m.cls) (hclink : (Cond.classLink own index ("[" ++ (FieldType.array ty).toString)).before args s = true)
    (hover : (Cond.arrayOver (.array ty)).before #[] s = true) (harr : ∃ cc kC cq, s.vm.findClass (FieldType.array ty).toString = some cc ∧ s.vm.classes[cc]? = some kC ∧ kC.kind = .array cq ty)
    (hdg : decode cc pc = .ok (.multianewarray index 2, 4)) {n k : Int32}
    (hn : ¬ n < 0) (hk : ¬ k < 0) (hN : n.toNatClampNeg = N) (hM : k.toNatClampNeg = M) (hb1 : N * 4 ≤ 536870912) (hb2 : M * componentBytes ty ≤ 536870912) (hb3 : M ≤ 536870912)
    (hdf : fits ty (defaultValue ty) = true) (hdd : (defaultValue ty).isDefault = true)
    (hcells : cells + (1 + N) ≤ R.cells) (hslots : slots + (N + N * M) ≤ R.slots)
    (kk : ∀ (H1 : Heap) (cA comp : ClassId) (L : List Loc), s.vm.findClass ("[" ++ (FieldType.array ty).toString) = some cA → s.vm.findClass (FieldType.array ty).toString = some comp → H1.size = H.size + 1 + N → H1[H.size]? = some (arrV cA N (fun j => .ref (H.size + 1 + j))) → (∀ j, j < N → H1[H.size + 1 + j]? = some (arrV comp M (fun _ => defaultValue ty))) → (∀ q, q < H.size → H1[q]? = H[q]?) → (∀ q ∈ L, q.base = H.size) →
      W p l e R s m args below meth c H1 (locs ++ L) (cells + (1 + N)) (slots + (N + N * M)) Q (F0 m (pc + 4) ls (.ref H.size :: rest))) : W p l e R s m args below meth c H locs cells slots Q (F0 m pc ls (.int k :: .int n :: rest)) := by
  subst hN
  subst hM
  intro T hT X
  have hpl : e.platform.magicAccessors = ({} : Platform).magicAccessors := by rw [X.admits.platform]
  obtain ⟨comp, cA, kA, hcomp, -, hkA, hkindA, hnameA⟩ := arrayOverA_spec hover
  obtain ⟨comp', kC, cq, hcomp', hkC, hkindC⟩ := harr
  have ecomp : comp' = comp := Option.some.inj (hcomp'.symm.trans hcomp)
  subst ecomp
  obtain ⟨c0, hfc0, hcl⟩ := Cond.classLink_spec hown hclink e.platform hpl
  cases hnameA.symm.trans hfc0
  obtain ⟨hg₁, hwarm₁, hready₁⟩ := State.classEntry (e := e) X.warmed hcl
  generalize T.vm.noted m.cls index (.cls cA) = vm₁ at hg₁ hwarm₁ hready₁
  have hal : s.vm.Alike vm₁ := hwarm₁.alike
  obtain ⟨kA₁, hkA₁, heA⟩ := hal.2.2 _ _ hkA
  obtain ⟨kC₁, hkC₁, heC⟩ := hal.2.2 _ _ hkC
  have hkindA₁ : kA₁.kind = .array comp' (.array ty) := by rw [heA]; exact hkindA
  have hkindC₁ : kC₁.kind = .array cq ty := by rw [heC]; exact hkindC
  have X₁ := X.noted hwarm₁
  obtain ⟨hr1, hr2⟩ := X.roomAbove hcells hslots
  have XF := zu_filled X₁ cA comp' n.toNatClampNeg k.toNatClampNeg (defaultValue ty) n.toNatClampNeg
  have hz : (T.setVm vm₁).heap.size = H.size := by rw [← hT]; rfl
  have hH : (T.setVm vm₁).heap = H := hT
  obtain ⟨f1, f2, f3, f4⟩ := zu_fill_f (T.setVm vm₁) cA comp' n.toNatClampNeg k.toNatClampNeg (defaultValue ty) n.toNatClampNeg
  have hA : zu_out cA n.toNatClampNeg H.size n.toNatClampNeg = arrV cA n.toNatClampNeg (fun j => .ref (H.size + 1 + j)) := by
    obtain ⟨o1, o2, o3⟩ := zu_out_f cA n.toNatClampNeg H.size n.toNatClampNeg
    have hs : (zu_out cA n.toNatClampNeg H.size n.toNatClampNeg).slots = Array.ofFn (n := n.toNatClampNeg) fun j => Value.ref (H.size + 1 + j.val) := by
      refine Array.ext_getElem? fun j => ?_
      by_cases hj : j < n.toNatClampNeg
      · rw [zu_slot cA _ _ _ j hj, if_pos hj]
        simp [hj]
      · rw [Array.getElem?_eq_none (by rw [o3]; omega), Array.getElem?_eq_none (by simp; omega)]
    have hg : ∀ i, (zu_out cA n.toNatClampNeg H.size i) = { cls := cA, slots := (zu_out cA n.toNatClampNeg H.size i).slots, vm := .none } := by
      intro i
      induction i with
      | zero => rfl
      | succ i ih =>
        show (zu_out cA n.toNatClampNeg H.size i).setSlot i _ = _
        rw [ih]
        rfl
    rw [hg, hs]
    rfl
  obtain ⟨t, a1, b1⟩ := kk (zu_fill (T.setVm vm₁) cA comp' n.toNatClampNeg k.toNatClampNeg (defaultValue ty) n.toNatClampNeg).heap cA comp' ((List.range n.toNatClampNeg).map fun j => ⟨(T.setVm vm₁).heap.size, j⟩) hnameA hcomp (by rw [f1, hz]) (by rw [← hz, f2, hz, hA]) (fun j hj => by rw [← hz, zu_inner _ _ _ _ _ _ _ j hj, ← arrV_new]; rfl) (fun q hq => by rw [zu_old _ _ _ _ _ _ (by rw [hz]; exact hq), hH]) (fun q hq => by
    obtain ⟨j, -, rfl⟩ := List.mem_map.mp hq
    exact hz) _ rfl (by
      have e1 : cells + (1 + n.toNatClampNeg) = cells + 1 + n.toNatClampNeg := by omega
      have e2 : slots + (n.toNatClampNeg + n.toNatClampNeg * k.toNatClampNeg) = slots + n.toNatClampNeg + n.toNatClampNeg * k.toNatClampNeg := by omega
      rw [e1, e2]
      exact XF)
  refine ⟨t, ?_, b1⟩
  have hl1 : ¬ n.toNatClampNeg > e.platform.arrayLengthLimit := by rw [Launch.admits_arrayLengthLimit X.admits]; omega
  have hh1 : ¬ n.toNatClampNeg * componentBytes (.array ty) > e.platform.maxHeapBytes := by
    rw [Launch.admits_maxHeapBytes X.admits]; show ¬ n.toNatClampNeg * 4 > 536870912; omega
  have hl2 : ¬ k.toNatClampNeg > e.platform.arrayLengthLimit := by rw [Launch.admits_arrayLengthLimit X.admits]; omega
  have hh2 : ¬ k.toNatClampNeg * componentBytes ty > e.platform.maxHeapBytes := by rw [Launch.admits_maxHeapBytes X.admits]; omega
  have hdg' : decode c.code pc = .ok (.multianewarray index 2, 4) := by rw [hb]; exact hdg
  jvm_step X.here [hexec, hdg']
  simp only [Op.multianewarray.sem, wp_bind', W.resolveClassAt_links (State.method?_setTop (F0 m pc ls (.int k :: .int n :: rest)) X.here.top) hg₁]
  rw [W.popN, if_neg (by decide)]
  refine ⟨F0 m pc ls (.int k :: .int n :: rest), State.topJava?_setTop' (s := T.setVm vm₁) _ X.here.top, [.int n, .int k], rest, rfl, rfl, ?_⟩
  simp only [List.mapM_cons, List.mapM_nil, wp_bind', wp_pure']
  refine zu_wp2 (k := kA₁) (kc := kC₁) (comp := comp') (cc := cq) (t0 := .array ty) (type := ty) hkA₁ hkindA₁ rfl hkC₁ hkindC₁ hn hk hl1 hh1 hl2 hh2 hdf hdd (by show T.heap.size + 1 + _ ≤ _; omega) (by show T.slotsUsed + _ + _ ≤ _; omega) (fun d' acts' => ?_)
  have eS : ((T.setTop (F0 m pc ls (.int k :: .int n :: rest))).setVm vm₁).setTop { F0 m pc ls (.int k :: .int n :: rest) with stack := rest } = (T.setVm vm₁).setTop { F0 m pc ls (.int k :: .int n :: rest) with stack := rest } := by
    show ((T.setVm vm₁).setTop _).setTop _ = _
    rw [State.setTop_setTop]
  rw [eS, zu_fill_top]
  simp only [wp_bind', W.mark, W.pushRef, State.topJava?_setTop' _ XF.here.top, Option.some.injEq, exists_eq_left', State.setTop_setTop, State.heap_setTop]
  intro acts
  simp [jvm, XF.here.top]
  have hz2 : T.heap.size = H.size := by rw [hT]
  rw [hz2]
  exact a1
end ZU
theorem va_RA_name {U : State} {cA : ClassId} {ty : FieldType} (h : va_RA U cA ty) : U.vm.findClass ("[" ++ ty.toString) = some cA := by
  cases ty <;> first
    | exact h
    | (obtain ⟨_, _, _, _, _, h4⟩ := h; exact h4)
/-- N rows of M parts below a new row -/
def znM (σ : zS) (t1 t2 N M : Nat) : zS := (fun a => if a = zn σ then 100 + t1 else if zn σ < a ∧ a ≤ zn σ + N then 100 + t2 else zK σ a, fun a => if a = zn σ then N else if zn σ < a ∧ a ≤ zn σ + N then M else zL σ a, zF σ, zG σ, fun a i => if zn σ ≤ a ∧ a ≤ zn σ + N then 0 else zI σ a i, fun a i => if a = zn σ then some (zn σ + 1 + i) else if zn σ < a ∧ a ≤ zn σ + N then none else zR σ a i, fun a i => if zn σ ≤ a ∧ a ≤ zn σ + N then 0 else zJ σ a i, zn σ + 1 + N)
theorem zK_znM (σ : zS) (t1 t2 N M : Nat) (a : Nat) : zK (znM σ t1 t2 N M) a = if a = zn σ then 100 + t1 else if zn σ < a ∧ a ≤ zn σ + N then 100 + t2 else zK σ a := (rfl)
theorem zL_znM (σ : zS) (t1 t2 N M : Nat) (a : Nat) : zL (znM σ t1 t2 N M) a = if a = zn σ then N else if zn σ < a ∧ a ≤ zn σ + N then M else zL σ a := (rfl)
theorem zF_znM (σ : zS) (t1 t2 N M : Nat) : zF (znM σ t1 t2 N M) = zF σ := (rfl)
theorem zG_znM (σ : zS) (t1 t2 N M : Nat) : zG (znM σ t1 t2 N M) = zG σ := (rfl)
theorem zI_znM (σ : zS) (t1 t2 N M : Nat) (a i : Nat) : zI (znM σ t1 t2 N M) a i = if zn σ ≤ a ∧ a ≤ zn σ + N then 0 else zI σ a i := (rfl)
theorem zR_znM (σ : zS) (t1 t2 N M : Nat) (a i : Nat) : zR (znM σ t1 t2 N M) a i = if a = zn σ then some (zn σ + 1 + i) else if zn σ < a ∧ a ≤ zn σ + N then none else zR σ a i := (rfl)
theorem zJ_znM (σ : zS) (t1 t2 N M : Nat) (a i : Nat) : zJ (znM σ t1 t2 N M) a i = if zn σ ≤ a ∧ a ≤ zn σ + N then 0 else zJ σ a i := (rfl)
theorem zn_znM (σ : zS) (t1 t2 N M : Nat) : zn (znM σ t1 t2 N M) = zn σ + 1 + N := (rfl)
theorem zw_multi {l : Launch} {y : zM} {R : Room} {pc : Nat} {lc : List (Nat × Value)} {st : List Value} {σ : zS} {uc us : Nat} {Q : Option Value → zS → Prop} {ix t1 t2 N M : Nat} {n k : Int32} (hd : decode y.2.1 pc = .ok (.multianewarray ix 2, 4)) (hlk : Cond.classLink y.1.cls ix ("[" ++ (FieldType.array (zAT t2)).toString) ∈ zT) (ht1 : t1 < znA) (ht2 : t2 < znA) (hty : zAT t1 = .array (zAT t2)) (hov : zOv (zAT t1) = zAOA (zAT t2)) (hw : Cond.arrayClass (zAT t2) ∈ zT ∨ ∃ te, zAT t2 = .array te) (hlt : t1 < 800 ∧ t2 < 800)
    (hdef : ∀ c N, vp_cell c (N, if zak t2 = 0 then .inl (fun _ => 0) else if zak t2 = 1 then .inr (.inl (fun _ => 0)) else .inr (.inr (.inr (.inr (fun _ => none))))) = arrV c N (fun _ => defaultValue (zAT t2))) (hdf : fits (zAT t2) (defaultValue (zAT t2)) = true ∧ (defaultValue (zAT t2)).isDefault = true)
    (hn : n = nI N) (hm : k = nI M) (hN : N ≤ 1000000) (hM : M ≤ 1000000) (hcb : componentBytes (zAT t2) ≤ 8) (hrm : uc + (1 + N) ≤ R.cells ∧ us + (N + N * M) ≤ R.slots)
    (kk : zAW l y R (pc + 4) lc (.ref (zn σ) :: st) (znM σ t1 t2 N M) (uc + (1 + N)) (us + (N + N * M)) Q) : zAW l y R pc lc (.int k :: .int n :: st) σ uc us Q := by
  subst hn
  subst hm
  intro p e s m args below meth c D dt b b0 H locs ls Qs hC hKK hR hb hS hl hu hF
  have hts := hC.2.2.2.2.2.1
  have hg : H.size = zg b b0 (zn σ) := hR.2.1.trans (zg_pos hR.1.1).symm
  have hov2 := hKK.2.2.2.1 t1 ht1
  rw [hov] at hov2
  have hpos := hR.1.1
  have hinn : ∃ cc kC cq, s.vm.findClass (FieldType.array (zAT t2)).toString = some cc ∧ s.vm.classes[cc]? = some kC ∧ kC.kind = .array cq (zAT t2) := by
    rcases hw with hw | ⟨te, hte⟩
    · obtain ⟨c1, k1, q1, a1, a2, a3⟩ := Cond.arrayClass_spec (hts _ hw)
      exact ⟨_, _, _, a1, a2, a3⟩
    · have h2 := hKK.2.2.2.1 t2 ht2
      rw [hte] at h2 ⊢
      obtain ⟨c1, c2, k2, b1, b2, b3, b4, b5⟩ := arrayOverA_spec (show (Cond.arrayOver (.array te)).before #[] s = true from h2)
      exact ⟨c2, k2, c1, b5, b3, b4⟩
  refine zz_multi (N := N) (M := M) hC.1 hC.2.1 hC.2.2.2.2.1 (hts _ hlk) hov2 hinn hd (nI_pos (by omega)) (nI_pos (by omega)) (nI_clamp (by omega)) (nI_clamp (by omega)) (by omega) (by have := Nat.mul_le_mul (show M ≤ 1000000 from hM) hcb; omega) (by omega) hdf.1 hdf.2 hrm.1 hrm.2 fun H1 cA comp L f1 f2 z1 e1 e2 o1 hL => ?_
  have hcA : cA = dt t1 := by
    have h2 := (hKK.arr ht1).2
    rw [hty] at h2
    exact Option.some.inj (f1.symm.trans h2)
  have hcB : comp = dt t2 := by
    have h2 := (hKK.arr ht2).2
    have h3 : s.vm.findClass ("[" ++ (zAT t2).toString) = some (dt t2) := va_RA_name h2
    exact Option.some.inj (f2.symm.trans h3)
  subst hcA
  subst hcB
  have hwf : zWF (znM σ t1 t2 N M) := by
    refine ⟨by rw [zn_znM]; omega, ?_, fun a ha => ?_⟩
    · rw [zK_znM, if_neg (by omega), if_neg (by omega)]
      exact hR.1.2.1
    · rw [zn_znM] at ha
      rw [zK_znM, if_neg (by omega), if_neg (by omega)]
      exact hR.1.2.2 a (by omega)
  have hz2 : zak t1 = 2 := by unfold zak; rw [hty]; rfl
  have hrep : zRep D dt b b0 (znM σ t1 t2 N M) s H1 := by
    refine ⟨hwf, by rw [z1, zn_znM, hR.2.1]; omega, hR.2.2.1, fun q q0 qn qq => ?_, ?_, hR.2.2.2.2.2.kept (fun x hx _ => o1 x hx)⟩
    · rw [zn_znM] at qn
      by_cases c1 : q = zn σ
      · subst c1
        unfold zAt
        have hK2 : zK (znM σ t1 t2 N M) (zn σ) = 100 + t1 := by rw [zK_znM, if_pos rfl]
        rw [hK2, if_neg (by omega), show 100 + t1 - 100 = t1 by omega]
        refine ⟨by omega, ?_⟩
        rw [zpay_r (σ := znM σ t1 t2 N M) (t := t1) hK2 hz2, vp_cell_q, ← hR.2.1, e1, zL_znM, if_pos rfl]
        congr 2
        funext j
        rw [zR_znM, if_pos rfl]
        show Value.ref (H.size + 1 + j) = va_rf (some (zg b b0 (zn σ + 1 + j)))
        have e9 : H.size + 1 + j = b0 + (zn σ + 1 + j) := by
          rw [hR.2.1]
          omega
        rw [zg_pos (by omega), e9]
        rfl
      · by_cases c2 : zn σ < q
        · obtain ⟨j, rfl⟩ : ∃ j, q = zn σ + 1 + j := ⟨q - zn σ - 1, by omega⟩
          unfold zAt
          have hK2 : zK (znM σ t1 t2 N M) (zn σ + 1 + j) = 100 + t2 := by rw [zK_znM, if_neg c1, if_pos (by omega)]
          rw [hK2, if_neg (by omega), show 100 + t2 - 100 = t2 by omega, show b0 + (zn σ + 1 + j) = H.size + 1 + j by rw [hR.2.1]; omega, e2 j (by omega)]
          refine ⟨by omega, ?_⟩
          rw [← hdef]
          congr 2
          rw [zL_znM, if_neg c1, if_pos (show zn σ < zn σ + 1 + j ∧ zn σ + 1 + j ≤ zn σ + N by omega)]
          congr 1
          unfold zpay
          rw [hK2, show 100 + t2 - 100 = t2 by omega]
          have g1 : zI (znM σ t1 t2 N M) (zn σ + 1 + j) = fun _ => 0 := funext fun i => by rw [zI_znM, if_pos (by omega)]
          have g2 : zJ (znM σ t1 t2 N M) (zn σ + 1 + j) = fun _ => 0 := funext fun i => by rw [zJ_znM, if_pos (by omega)]
          have g3 : (fun i => (zR (znM σ t1 t2 N M) (zn σ + 1 + j) i).map (zg b b0)) = fun _ => none := funext fun i => by rw [zR_znM, if_neg c1, if_pos (by omega)]; rfl
          rw [g1, g2, g3]
        · refine zAt.kept (zAt.same (σ' := znM σ t1 t2 N M) (hR.2.2.2.1 q q0 (by omega) ?_) ?_ ?_ (fun _ _ => rfl) (fun _ _ => rfl) (funext fun i => ?_) (funext fun i => ?_) (funext fun i => ?_)) (o1 _ (by rw [hR.2.1]; omega))
          · rw [zK_znM, if_neg c1, if_neg (by omega)] at qq
            exact qq
          · rw [zK_znM, if_neg c1, if_neg (by omega)]
          · rw [zL_znM, if_neg c1, if_neg (by omega)]
          · rw [zI_znM, if_neg (by omega)]
          · rw [zR_znM, if_neg c1, if_neg (by omega)]
          · rw [zJ_znM, if_neg (by omega)]
    · have i0 : zI (znM σ t1 t2 N M) 0 = zI σ 0 := funext fun i => by rw [zI_znM, if_neg (by omega)]
      rw [zL_znM, if_neg (by omega), if_neg (by omega), i0]
      exact hR.2.2.2.2.1.kept (o1 b (by have := hR.2.2.1; rw [hR.2.1]; omega))
  have hk := kk p e s m args below meth c D dt b b0 H1 (locs ++ L) ls Qs hC hKK hrep hb ⟨Nat.le_trans hS.1 (by omega), fun x h1 h2 => (o1 x (Nat.lt_of_lt_of_le h1 hS.1)).trans (hS.2.1 x h1 h2), fun q hq => by
    rcases List.mem_append.mp hq with h | h
    · exact hS.2.2 q h
    · show b0 < q.base
      rw [hL q h, hR.2.1]
      omega⟩ hl hrm hF
  rw [hg]
  exact hk
