/-! rows of rows: made, stored into, cast, cloned -/
theorem zcn_same : Cond.sameMethod "[I" "java/lang/Object" "clone" "()Ljava/lang/Object;" ∈ zT := zT_of 379 (by decide +kernel) (by decide +kernel)
theorem zcn_nat : Cond.native ⟨"java/lang/Object", "clone", "()Ljava/lang/Object;"⟩ ∈ zT := zT_of 380 (by decide +kernel) (by decide +kernel)
theorem zcn_inst : Cond.instanceMethod ⟨"java/lang/Object", "clone", "()Ljava/lang/Object;"⟩ ∈ zT := zT_of 381 (by decide +kernel) (by decide +kernel)
theorem zcn_sel : Cond.selects "[I" ⟨"[I", "clone", "()Ljava/lang/Object;"⟩ ⟨"java/lang/Object", "clone", "()Ljava/lang/Object;"⟩ ∈ zT := zT_of 382 (by decide +kernel) (by decide +kernel)
theorem zcnX6_39 : Cond.methodLink RX6 39 ⟨"[I", "clone", "()Ljava/lang/Object;"⟩ ∈ zT := zT_of 583 (by decide +kernel) (by decide +kernel)
section ZE
variable {l : Launch} {y : zM} {R : Room} {pc : Nat} {lc : List (Nat × Value)} {st : List Value} {σ : zS} {uc us : Nat} {Q : Option Value → zS → Prop}
theorem zw_castI {ix a : Nat} (hd : decode y.2.1 pc = .ok (.checkcast ix, 3)) (hlk : Cond.classLink y.1.cls ix "[I" ∈ zT) (hk : zK σ a = 100) (h0 : 0 < a) (kk : zAW l y R (pc + 3) lc (.ref a :: st) σ uc us Q) : zAW l y R pc lc (.ref a :: st) σ uc us Q := by
  intro p e s m args below meth c D dt b b0 H locs ls Qs hC hKK hR hb hS hl hu hF
  obtain ⟨h1, h2, h3, h4⟩ := hR.arr (t := 0) hk h0 (by decide)
  have hnm := va_nm_int (hKK.arr (show 0 < znA by decide)).2
  refine va_castA (D := D) (cl := vwCl) (ws := [(zg b b0 a, .inl (dt 0, (zL σ a, zpay (zg b b0) σ a)))]) hC.1 hC.2.1 hC.2.2.2.2.1 (hC.2.2.2.2.2.1 _ hlk) (fun k q hq => ?_) 0 rfl hnm hd ?_
  · cases k with
    | zero => cases hq; exact h4
    | succ k => simp at hq
  · exact kk p e s m args below meth c D dt b b0 H locs ls Qs hC hKK hR hb hS hl hu hF
theorem zw_cloneI {ix a : Nat} (hd : decode y.2.1 pc = .ok (.invokevirtual ix, 3)) (hlk : Cond.methodLink y.1.cls ix ⟨"[I", "clone", "()Ljava/lang/Object;"⟩ ∈ zT) (hk : zK σ a = 100) (h0 : 0 < a) (hfr : 1 ≤ R.frames ∧ (st.map fun v => v.category).sum + 14 ≤ R.locals) (hrm : uc + 1 ≤ R.cells ∧ us + zL σ a ≤ R.slots) (kk : zAW l y R (pc + 3) lc (.ref (zn σ) :: st) (znA2 σ 0 (zL σ a) (zI σ a)) (uc + 1) (us + zL σ a) Q) : zAW l y R pc lc (.ref a :: st) σ uc us Q := by
  intro p e s m args below meth c D dt b b0 H locs ls Qs hC hKK hR hb hS hl hu hF
  obtain ⟨h1, h2, h3, h4⟩ := hR.arr (t := 0) hk h0 (by decide)
  rw [zpay_i (t := 0) hk rfl, vp_cell_i] at h4
  have hts := hC.2.2.2.2.2.1
  have hrk := hKK.arr (show 0 < znA by decide)
  have hnm := va_nm_int hrk.2
  have hg : b0 + zn σ = zg b b0 (zn σ) := (zg_pos hR.1.1).symm
  obtain ⟨c0, t0', f1, f2, f3⟩ := Cond.castable_spec (va_Nw.use (A := args) rfl hKK.2.2.2.2)
  cases hnm.symm.trans f1
  obtain ⟨-, kS, hkS, compS, hkindS⟩ := hrk.1 0 (fun _ => .null)
  intro T hT X
  have hcellT : T.heap[zg b b0 a]? = some (arrV (dt 0) (zL σ a) (fun i => .int (zI σ a i))) := by rw [hT]; exact h4
  obtain ⟨-, kA, hkA, comp, hkind⟩ := State.isArrayOf_alike X.warmed.alike (hrk.1 0 (fun _ => .null))
  have hsz : (arrV (dt 0) (zL σ a) (fun i => .int (zI σ a i))).slots.size = zL σ a := arrV_size _ _ _
  obtain ⟨vm', X', st'⟩ := X.cloneArray hC.1 hC.2.2.2.2.1 (hts _ hlk) (hts _ zcn_same) (hts _ zcn_nat) (hts _ zcn_inst) (hts _ zcn_sel) (a := zg b b0 a) (cell := arrV (dt 0) (zL σ a) (fun i => .int (zI σ a i))) hcellT (fun k h => by cases h) (fun h => by cases h) hnm f2 f3
    (fun i v hv => by
      have hk' : T.vm.classes[dt 0]? = some kA := hkA
      have hf : fits (zAT 0) v = true := va_fit (cA := dt 0) (n := zL σ a) (F := fun i => .int (zI σ a i)) (ty := .int) (fun _ _ => rfl) i v hv
      show State.fitsSlot T (dt 0) _ i v = true
      simpa [State.fitsSlot, State.slotType?, hk', hkind] using hf)
    (g := F0 m pc ls (.ref (zg b b0 a) :: st.map (zv (zg b b0)))) rfl (by rw [hC.2.2.2.1]; exact hl.1) rfl (by rw [hC.2.1]; exact hd) hfr.1 (by show 2 * 0 + _ + 14 ≤ _; rw [zcat]; have := hfr.2; omega) hrm.1 (by rw [hsz]; exact hrm.2) (hloader := Vm.clonesLoader_of_array hkS hkindS)
  rw [hsz] at X'
  generalize hH1 : H.push (arrV (dt 0) (zL σ a) (fun i => .int (zI σ a i))) = H1
  have z1 : H1.size = H.size + 1 := by rw [← hH1, Array.size_push]
  have e1 : H1[H.size]? = some (arrV (dt 0) (zL σ a) (fun i => .int (zI σ a i))) := by rw [← hH1, Array.getElem?_push_size]
  have o1 : ∀ q : Nat, q < H.size → H1[q]? = H[q]? := fun q hq => by rw [← hH1, Array.getElem?_push, if_neg (Nat.ne_of_lt hq)]
  have hk := kk p e s m args below meth c D dt b b0 H1 locs ls Qs hC hKK (hR.push z1 o1 (zWF_A2 hR.1 0 _ _) rfl ?_ (fun x hx => ?_) (fun x hx => ?_) (fun _ _ _ _ => rfl) (fun _ _ _ _ => rfl) (fun x hx => funext fun j => ?_) (fun _ _ => rfl) (fun _ _ => rfl)) hb (zS.grow hS (by omega) o1) hl hrm hF
  · obtain ⟨t, b1, b2⟩ := hk ((T.setVm vm').pushCell (arrV (dt 0) (zL σ a) (fun i => .int (zI σ a i)))) (by rw [← hH1, ← hT]; rfl) X'
    refine ⟨t, st' t ?_, b2⟩
    rw [show (.ref (zn σ) :: st : List Value).map (zv (zg b b0)) = .ref (zg b b0 (zn σ)) :: st.map (zv (zg b b0)) from rfl, ← hg, ← hR.2.1, ← hT] at b1
    exact b1
  · unfold zAt
    have hK2 : zK (znA2 σ 0 (zL σ a) (zI σ a)) (zn σ) = 100 + 0 := by rw [zK_znA2, if_pos rfl]
    rw [hK2, if_neg (by omega)]
    refine ⟨by omega, ?_⟩
    rw [show 100 + 0 - 100 = 0 by omega, zpay_i (σ := znA2 σ 0 (zL σ a) (zI σ a)) (t := 0) hK2 rfl, vp_cell_i, ← hR.2.1, e1, zL_znA2, if_pos rfl]
    congr 2
    funext j
    rw [zI_znA2, if_pos rfl]
  · rw [zK_znA2, if_neg hx]
  · rw [zL_znA2, if_neg hx]
  · rw [zI_znA2, if_neg hx]
/-- a new row of rows -/
theorem zw_newA {ix t N : Nat} {n : Int32} {te : FieldType} (hd : decode y.2.1 pc = .ok (.anewarray ix, 3)) (hlk : Cond.classLink y.1.cls ix (FieldType.array te).toString ∈ zT) (ht : t < znA) (ht2 : t < 800) (hz : zAT t = .array te) (hn : n = nI N) (hN : N ≤ 134217728) (hrm : uc + 1 ≤ R.cells ∧ us + N ≤ R.slots) (kk : zAW l y R (pc + 3) lc (.ref (zn σ) :: st) (znA1 σ t N) (uc + 1) (us + N) Q) : zAW l y R pc lc (.int n :: st) σ uc us Q := by
  subst hn
  have e : (nI N).toNatClampNeg = N := nI_clamp (by omega)
  intro p e0 s m args below meth c D dt b b0 H locs ls Qs hC hKK hR hb hS hl hu hF
  have hts := hC.2.2.2.2.2.1
  have hg : b0 + zn σ = zg b b0 (zn σ) := (zg_pos hR.1.1).symm
  have hov := hKK.2.2.2.1 t ht
  rw [hz] at hov
  have hz2 : zak t = 2 := by unfold zak; rw [hz]; rfl
  have hnm := (hKK.arr ht).2
  rw [hz] at hnm
  refine W.anewA (t := te) hC.1 hC.2.1 hC.2.2.2.2.1 (hts _ hlk) (show (Cond.arrayOver (.array te)).before args s = true from hov) rfl hd rfl (nI_pos (by omega)) (by rw [e]; omega) hrm.1 (by rw [e]; exact hrm.2) fun cA kA comp f1 f2 f3 f4 => ?_
  have hcA : cA = dt t := Option.some.inj (f1.symm.trans hnm)
  subst hcA
  generalize hH1 : H.push ({ cls := dt t, slots := Array.replicate (nI N).toNatClampNeg .null, vm := .none } : Cell) = H1
  have z1 : H1.size = H.size + 1 := by rw [← hH1, Array.size_push]
  have e1 : H1[H.size]? = some (arrV (dt t) N (fun _ => .null)) := by rw [← hH1, Array.getElem?_push_size, e, ← arrV_new]
  have o1 : ∀ q : Nat, q < H.size → H1[q]? = H[q]? := fun q hq => by rw [← hH1, Array.getElem?_push, if_neg (Nat.ne_of_lt hq)]
  have hk := kk p e0 s m args below meth c D dt b b0 H1 locs ls Qs hC hKK (hR.push z1 o1 (zWF_A1 hR.1 t _) rfl ?_ (fun x hx => ?_) (fun x hx => ?_) (fun _ _ _ _ => rfl) (fun _ _ _ _ => rfl) (fun x hx => funext fun j => ?_) (fun x hx => funext fun j => ?_) (fun x hx => funext fun j => ?_)) hb (zS.grow hS (by omega) o1) hl hrm hF
  · rw [show H.size = zg b b0 (zn σ) from hR.2.1.trans hg, e]
    exact hk
  · unfold zAt
    have hK2 : zK (znA1 σ t N) (zn σ) = 100 + t := by rw [zK_znA1, if_pos rfl]
    rw [hK2, if_neg (by omega), show 100 + t - 100 = t by omega]
    refine ⟨by omega, ?_⟩
    rw [zpay_r (σ := znA1 σ t N) (t := t) hK2 hz2, vp_cell_q, ← hR.2.1, e1, zL_znA1, if_pos rfl]
    congr 2
    funext j
    rw [zR_znA1, if_pos rfl]
    rfl
  · rw [zK_znA1, if_neg hx]
  · rw [zL_znA1, if_neg hx]
  · rw [zI_znA1, if_neg hx]
  · rw [zR_znA1, if_neg hx]
  · rw [zJ_znA1, if_neg hx]
/-- a row stored into a row of rows -/
theorem zw_aastoreA {a t v tv : Nat} {i : Int32} (hd : decode y.2.1 pc = .ok (.aastore, 1)) (hk : zK σ a = 100 + t) (ht : t < 800) (hz : zAT t = .array (zAT tv)) (hzv : ∀ C, zAT tv ≠ .object C) (hv : zK σ v = 100 + tv) (hv0 : 0 < v) (htv : tv < 800) (hin : vp_in i (zL σ a)) (kk : zAW l y R (pc + 1) lc st (zsR σ a i.toNatClampNeg (some v)) uc us Q) : zAW l y R pc lc (.ref v :: .int i :: .ref a :: st) σ uc us Q := by
  intro p e s m args below meth c D dt b b0 H locs ls Qs hC hKK hR hb hS hl hu hF
  have hz2 : zak t = 2 := by unfold zak; rw [hz]; rfl
  have ht0 : t ≠ 0 := fun q => by subst q; exact absurd hz2 (by decide)
  have h0 := zWF_pos hR.1 hk (by omega)
  obtain ⟨h1, h2, h3, h4⟩ := hR.arr (t := t) hk h0 ht
  rw [zpay_r hk hz2, vp_cell_q] at h4
  obtain ⟨w1, w2, w3, w4⟩ := hR.arr (t := tv) hv hv0 htv
  have hov := hKK.2.2.2.1 t h3
  rw [hz] at hov
  obtain ⟨comp, cA, kA, f1, f2, f3, f4, f5⟩ := arrayOverA_spec (show (Cond.arrayOver (.array (zAT tv))).before #[] s = true from hov)
  have hnm := (hKK.arr h3).2
  rw [hz] at hnm
  have hcA : cA = dt t := Option.some.inj (f5.symm.trans hnm)
  subst hcA
  have hnv : s.vm.findClass ("[" ++ (zAT tv).toString) = some (dt tv) := by
    have := (hKK.arr w3).2
    revert this hzv
    cases zAT tv <;> intro hzv this <;> first | exact this | exact absurd rfl (hzv _)
  have hcomp : comp = dt tv := Option.some.inj (f1.symm.trans (show s.vm.findClass (FieldType.array (zAT tv)).toString = some (dt tv) from hnv))
  subst hcomp
  obtain ⟨kC, hkC, -⟩ := Vm.findClass_spec f1
  have hvm0 : ∀ x : vp_A, (vp_cell (dt tv) x).vm = .none := fun x => by obtain ⟨n, f | f | f | f | f⟩ := x <;> rfl
  have hcl0 : ∀ x : vp_A, (vp_cell (dt tv) x).cls = dt tv := fun x => by obtain ⟨n, f | f | f | f | f⟩ := x <;> rfl
  refine W.aast hC.1 hC.2.1 h4 (fun q h => by cases h) (fun h => by cases h) f3 f4 rfl hkC ⟨fun q => hin (Or.inl q), by rw [arrV_size]; exact vp_in_lt hin⟩ w4 (fun q h => by rw [hvm0] at h; cases h) (by rw [hcl0]; exact hkC) (by rw [hcl0]; exact va_asg _ _) rfl rfl hd fun H1 e1 z oq => ?_
  rw [h2] at e1 oq ⊢
  refine kk p e s m args below meth c D dt b b0 H1 _ ls Qs hC hKK (hR.set h0 h1 z oq (zWF_sR hR.1 a _ (some v)) rfl ?_ (fun _ _ => rfl) (fun _ _ => rfl) (fun _ _ _ _ => rfl) (fun _ _ _ _ => rfl) (fun _ _ => rfl) (fun q hq => funext fun j => ?_) (fun _ _ => rfl)) hb (zS.put hS z oq h0) hl hu hF
  · unfold zAt
    rw [show zK (zsR σ a i.toNatClampNeg (some v)) a = 100 + t from hk, if_neg (by omega)]
    refine ⟨by omega, ?_⟩
    rw [show 100 + t - 100 = t by omega, zpay_r (σ := zsR σ a i.toNatClampNeg (some v)) (t := t) hk hz2, vp_cell_q, e1, arrV_store]
    congr 2
    funext j
    by_cases hj : j = i.toNatClampNeg
    · subst hj
      simp [updV, zR_zsR, va_rf]
    · simp [updV, zR_zsR, hj]
  · rw [zR_zsR, if_neg (fun z => hq z.1)]
end ZE
