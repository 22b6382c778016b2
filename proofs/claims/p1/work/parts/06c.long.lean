/-! longs and doubles: locals of two places, constants, comparisons, rows of longs -/
theorem zHas.st2 {ls ls' : Array Slot} {nL : Nat} {g : Nat → Nat} {lc : List (Nat × Value)} {i : Nat} {v w : Value} (h : zHas ls nL g lc) (hw : w = zv g v) (h' : lv_has ls' nL ((i, w) :: (zLL nL g lc).filter (fun q => !(q.1 == i) && (!(q.1 == i + 1) && !(q.1 + 1 == i && q.2.category == 2))))) (ho : zlo lc i = true) (hz : zlk lc (i + 1) = none) : zHas ls' nL g ((i, v) :: lc) := by
  refine ⟨h'.1, h'.2.1, fun j u hu => ?_⟩
  unfold zlk at hu
  split at hu
  · rename_i e
    have e : i = j := e
    subst e
    cases hu
    rw [← hw]
    exact h'.2.2 (i, w) List.mem_cons_self
  · rename_i e
    have e : ¬ i = j := e
    have hj : j < nL := by rw [← h.1]; exact lv_lt (h.2.2 j u hu)
    have hj1 : ¬ j = i + 1 := fun q => by
      subst q
      rw [hz] at hu
      cases hu
    refine h'.2.2 (j, zv g u) (List.mem_cons_of_mem _ (List.mem_filter.mpr ⟨zLL_mem.mpr ⟨hj, u, hu, rfl⟩, ?_⟩))
    have n1 : (j == i) = false := by simp; omega
    have n3 : (j == i + 1) = false := by simp; omega
    by_cases hji : j + 1 = i
    · subst hji
      have hc : (u.category == 1) = true := by
        have ho2 : (match zlk lc j with
          | some v => v.category == 1
          | none => true) = true := ho
        rw [hu] at ho2
        exact ho2
      have hc2 : ((zv g u).category == 2) = false := by
        rw [zv_cat]
        have : u.category = 1 := by simpa using hc
        rw [this]; rfl
      simp [n1, n3, hc2]
    · have n2 : (j + 1 == i) = false := by simp; omega
      simp [n1, n2, n3]
section ZL2
variable {l : Launch} {y : zM} {R : Room} {pc : Nat} {lc : List (Nat × Value)} {st : List Value} {σ : zS} {uc us : Nat} {Q : Option Value → zS → Prop}
theorem zw_lstore_n {k : Fin 4} {x : Int64} (hd : decode y.2.1 pc = .ok (.lstore_n k, 1)) (hn : (k : Nat) + 1 < y.2.2.1) (ho : zlo lc (k : Nat) = true) (hz : zlk lc ((k : Nat) + 1) = none) (kk : zAW l y R (pc + 1) (((k : Nat), .long x) :: lc) st σ uc us Q) : zAW l y R pc lc (.long x :: st) σ uc us Q := by
  intro p e s m args below meth c D dt b b0 H locs ls Qs hC hKK hR hb hS hl hu hF
  exact lv_lstore_n hC.1 hC.2.1 hd rfl hl.toL hn rfl (fun ls' hl' => kk p e s m args below meth c D dt b b0 H locs ls' Qs hC hKK hR hb hS (hl.st2 rfl hl' ho hz) hu hF)
theorem zw_dstore {i : Nat} {x : UInt64} (hd : decode y.2.1 pc = .ok (.dstore i, 2)) (hn : i + 1 < y.2.2.1) (ho : zlo lc i = true) (hz : zlk lc (i + 1) = none) (kk : zAW l y R (pc + 2) ((i, .double x) :: lc) st σ uc us Q) : zAW l y R pc lc (.double x :: st) σ uc us Q := by
  intro p e s m args below meth c D dt b b0 H locs ls Qs hC hKK hR hb hS hl hu hF
  exact lv_dstore hC.1 hC.2.1 hd hl.toL hn rfl (fun ls' hl' => kk p e s m args below meth c D dt b b0 H locs ls' Qs hC hKK hR hb hS (hl.st2 rfl hl' ho hz) hu hF)
theorem zw_dload {i : Nat} {x : UInt64} (hd : decode y.2.1 pc = .ok (.dload i, 2)) (hl0 : zlk lc i = some (.double x)) (kk : zAW l y R (pc + 2) lc (.double x :: st) σ uc us Q) : zAW l y R pc lc st σ uc us Q := by
  intro p e s m args below meth c D dt b b0 H locs ls Qs hC hKK hR hb hS hl hu hF
  exact lv_dload hC.1 hC.2.1 hd (hl.2.2 _ _ hl0) (kk p e s m args below meth c D dt b b0 H locs ls Qs hC hKK hR hb hS hl hu hF)
theorem zw_dconst0 (hd : decode y.2.1 pc = .ok (.dconst 0, 1)) (kk : zAW l y R (pc + 1) lc (.double FP.dconst0 :: st) σ uc us Q) : zAW l y R pc lc st σ uc us Q := by
  intro p e s m args below meth c D dt b b0 H locs ls Qs hC hKK hR hb hS hl hu hF
  exact lv_dconst0 hC.1 hC.2.1 hd (kk p e s m args below meth c D dt b b0 H locs ls Qs hC hKK hR hb hS hl hu hF)
theorem zw_dcmp {x z : UInt64} {op : CmpOp} (hd : decode y.2.1 pc = .ok (.dcmp op, 1)) (kk : zAW l y R (pc + 1) lc (.int (Op.cmpValue (FP.dcmp x z) op) :: st) σ uc us Q) : zAW l y R pc lc (.double z :: .double x :: st) σ uc us Q := by
  intro p e s m args below meth c D dt b b0 H locs ls Qs hC hKK hR hb hS hl hu hF
  exact lv_dcmp hC.1 hC.2.1 hd (kk p e s m args below meth c D dt b b0 H locs ls Qs hC hKK hR hb hS hl hu hF)
theorem zw_ldc2 {ix : Nat} {x : Int64} (hd : decode y.2.1 pc = .ok (.ldc2_w ix, 3)) (hx : Cond.constantLong y.1.cls ix x ∈ zT) (kk : zAW l y R (pc + 3) lc (.long x :: st) σ uc us Q) : zAW l y R pc lc st σ uc us Q := by
  intro p e s m args below meth c D dt b b0 H locs ls Qs hC hKK hR hb hS hl hu hF
  exact lv_ldc2 hC.1 hC.2.1 hC.2.2.2.2.1 (hC.2.2.2.2.2.1 _ hx) hd (kk p e s m args below meth c D dt b b0 H locs ls Qs hC hKK hR hb hS hl hu hF)
theorem zw_newJ {t N : Nat} {n : Int32} (hd : decode y.2.1 pc = .ok (.newarray .long, 2)) (ht : t < znA ∧ t < 800) (hty : FieldType.long = zAT t) (hw : Cond.arrayClass .long ∈ zT) (hn : n = nI N) (hN : N ≤ 67108864) (hrm : uc + 1 ≤ R.cells ∧ us + N ≤ R.slots) (kk : zAW l y R (pc + 2) lc (.ref (zn σ) :: st) (znA1 σ t N) (uc + 1) (us + N) Q) : zAW l y R pc lc (.int n :: st) σ uc us Q := by
  subst hn
  have e : (nI N).toNatClampNeg = N := nI_clamp (by omega)
  have hz1 : zak t = 1 := by unfold zak; rw [← hty]; rfl
  refine zw_newarray (t := t) hd ht.1 ht.2 hty hw (fun c k => by rw [hz1, if_neg (by decide), if_pos rfl]; rfl) (nI_pos (by omega)) ?_ ?_ ?_
  · rw [e]
    show N * 8 ≤ 536870912
    omega
  · rw [e]; exact hrm
  · rw [e]; exact kk
end ZL2
