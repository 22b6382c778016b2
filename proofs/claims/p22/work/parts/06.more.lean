/-! more rows: short forms, Math.min, arraycopy, arrays of objects -/
theorem zin_of {i : Int32} {m n : Nat} (hl : m = n) (h : vp_in i n) : vp_in i m := by rw [hl]; exact h
theorem znarR {c k : Nat} (h : zir c k = true) : ∀ v : Value, (v = .null ∨ ∃ q, v = .ref q) → narrow (zFT c k) v = v ∧ fits (zFT c k) v = true := by
  intro v hv
  unfold zir at h
  cases e : zFT c k with
  | object n => rcases hv with rfl | ⟨q, rfl⟩ <;> exact ⟨rfl, rfl⟩
  | array t => rcases hv with rfl | ⟨q, rfl⟩ <;> exact ⟨rfl, rfl⟩
  | _ => rw [e] at h; exact absurd h (by decide)
section ZM
variable {l : Launch} {y : zM} {R : Room} {pc : Nat} {lc : List (Nat × Value)} {st : List Value} {σ : zS} {uc us : Nat} {Q : Option Value → zS → Prop}
theorem zw_putO {ix c k a o : Nat} (hd : decode y.2.1 pc = .ok (.putfield ix, 3)) (hf : zFL y.1.cls ix c k) (hi : zir c k = true) (hfin : ((zcl c).2.1 k).2.2.2 = false ∨ (y.1.name = "<init>" ∧ ((zcl c).2.1 k).2.2.2 = true ∧ ((zcl c).2.1 k).1 = y.1.cls ∧ (∀ z ∈ zNF, ¬ (z.1 = y.1.cls ∧ z.2.1 = ix)))) (hk : zK σ a = c) (hc : c < 100) (kk : zAW l y R (pc + 3) lc st (zsG σ c k a (some o)) uc us Q) : zAW l y R pc lc (.ref o :: .ref a :: st) σ uc us Q := zw_putR (r := some o) hd hf hi hfin (znarR hi) hk hc kk
theorem zw_putN {ix c k a : Nat} (hd : decode y.2.1 pc = .ok (.putfield ix, 3)) (hf : zFL y.1.cls ix c k) (hi : zir c k = true) (hfin : ((zcl c).2.1 k).2.2.2 = false ∨ (y.1.name = "<init>" ∧ ((zcl c).2.1 k).2.2.2 = true ∧ ((zcl c).2.1 k).1 = y.1.cls ∧ (∀ z ∈ zNF, ¬ (z.1 = y.1.cls ∧ z.2.1 = ix)))) (hk : zK σ a = c) (hc : c < 100) (kk : zAW l y R (pc + 3) lc st (zsG σ c k a none) uc us Q) : zAW l y R pc lc (.null :: .ref a :: st) σ uc us Q := zw_putR (r := none) hd hf hi hfin (znarR hi) hk hc kk
theorem zw_putIF {ix c k a : Nat} {x : Int32} (hd : decode y.2.1 pc = .ok (.putfield ix, 3)) (hf : zFL y.1.cls ix c k) (hi : zir c k = false) (hfin : y.1.name = "<init>" ∧ ((zcl c).2.1 k).2.2.2 = true ∧ ((zcl c).2.1 k).1 = y.1.cls ∧ (∀ z ∈ zNF, ¬ (z.1 = y.1.cls ∧ z.2.1 = ix))) (hn : narrow (zFT c k) (.int x) = .int x ∧ fits (zFT c k) (.int x) = true) (hk : zK σ a = c) (hc : c < 100) (kk : zAW l y R (pc + 3) lc st (zsF σ c k a x) uc us Q) : zAW l y R pc lc (.int x :: .ref a :: st) σ uc us Q := by
  intro p e s m args below meth cd D dt b b0 H locs ls Qs hC hKK hR hb hS hl hu hF
  obtain ⟨h0, h1, h2, h3, h4⟩ := hR.obj hk hc
  rw [h2] at h4
  show W p l e R s m args below meth cd H locs uc us Qs (F0 m pc ls (.int x :: .ref (zg b b0 a) :: st.map (zv (zg b b0))))
  rw [h2]
  refine zz_putF hC.1 hC.2.1 hC.2.2.2.2.2.1 hC.2.2.2.2.1 hKK.1 hf hfin.2.2.2 h4 hfin.2.1 hfin.2.2.1 (hC.2.2.2.2.2.2.2.1 hfin.1) hn.1 hn.2 hd (fun H1 k1 g1 g2 g3 => ?_)
  refine kk p e s m args below meth cd D dt b b0 H1 _ ls Qs hC hKK (hR.set h0 h1 g2 g3 (zWF_sF hR.1 c k a x) rfl ?_ (fun _ _ => rfl) (fun _ _ => rfl) (fun z hz c' k' => ?_) (fun _ _ _ _ => rfl) (fun _ _ => rfl) (fun _ _ => rfl) (fun _ _ => rfl)) hb (hS.put g2 g3 (by show b0 < b0 + a; omega)) hl hu hF
  · unfold zAt
    rw [show zK (zsF σ c k a x) a = c from hk, if_pos hc]
    refine ⟨h3, g1.to (fun j _ => ?_)⟩
    by_cases e : j = k
    · subst e
      simp [updV, zfv, zF_zsF, hi, zv]
    · simp [updV, zfv, zF_zsF, zG_zsF, e]
  · rw [zF_zsF, if_neg (fun q => hz q.2.2)]
/-- new int[N] -/
theorem zw_newI {n : Int32} {N : Nat} (hd : decode y.2.1 pc = .ok (.newarray .int, 2)) (hn : n = nI N) (hN : N ≤ 134217728) (hrm : uc + 1 ≤ R.cells ∧ us + N ≤ R.slots) (kk : zAW l y R (pc + 2) lc (.ref (zn σ) :: st) (znA1 σ 0 N) (uc + 1) (us + N) Q) : zAW l y R pc lc (.int n :: st) σ uc us Q := by
  subst hn
  have e : (nI N).toNatClampNeg = N := nI_clamp (by omega)
  refine zw_newarray (t := 0) hd (by decide) (by decide) rfl zaw_0 (fun _ _ => rfl) (nI_pos (by omega)) ?_ ?_ ?_
  · rw [e]
    show N * 4 ≤ 536870912
    omega
  · rw [e]; exact hrm
  · rw [e]; exact kk
theorem zw_newZ {n : Int32} {N : Nat} (hd : decode y.2.1 pc = .ok (.newarray .boolean, 2)) (hn : n = nI N) (hN : N ≤ 134217728) (hrm : uc + 1 ≤ R.cells ∧ us + N ≤ R.slots) (kk : zAW l y R (pc + 2) lc (.ref (zn σ) :: st) (znA1 σ 1 N) (uc + 1) (us + N) Q) : zAW l y R pc lc (.int n :: st) σ uc us Q := by
  subst hn
  have e : (nI N).toNatClampNeg = N := nI_clamp (by omega)
  refine zw_newarray (t := 1) hd (by decide) (by decide) rfl zaw_1 (fun _ _ => rfl) (nI_pos (by omega)) ?_ ?_ ?_
  · rw [e]
    show N * 1 ≤ 536870912
    omega
  · rw [e]; exact hrm
  · rw [e]; exact kk
/-- new C[N] -/
theorem zw_newO {ix t N : Nat} {n : Int32} {C : String} (hd : decode y.2.1 pc = .ok (.anewarray ix, 3)) (hlk : Cond.classLink y.1.cls ix C ∈ zT) (ht : t < znA) (ht2 : t < 800) (hz : zAT t = .object C) (hn : n = nI N) (hN : N ≤ 134217728) (hrm : uc + 1 ≤ R.cells ∧ us + N ≤ R.slots) (kk : zAW l y R (pc + 3) lc (.ref (zn σ) :: st) (znA1 σ t N) (uc + 1) (us + N) Q) : zAW l y R pc lc (.int n :: st) σ uc us Q := by
  subst hn
  have e : (nI N).toNatClampNeg = N := nI_clamp (by omega)
  intro p e0 s m args below meth c D dt b b0 H locs ls Qs hC hKK hR hb hS hl hu hF
  have hts := hC.2.2.2.2.2.1
  have hg : b0 + zn σ = zg b b0 (zn σ) := (zg_pos hR.1.1).symm
  have hov := hKK.2.2.2.1 t ht
  rw [hz] at hov
  have hz2 : zak t = 2 := by unfold zak; rw [hz]; rfl
  have hra := (hKK.arr ht).2
  rw [hz] at hra
  obtain ⟨_, _, _, _, _, hnm⟩ := hra
  refine W.anew hC.1 hC.2.1 hC.2.2.2.2.1 (hts _ hlk) (va_AO.use hov) rfl hd rfl (nI_pos (by omega)) (by rw [e]; omega) hrm.1 (by rw [e]; exact hrm.2) fun cA kA comp f1 f2 f3 f4 => ?_
  have hcA : cA = dt t := Option.some.inj (f1.symm.trans hnm)
  subst hcA
  generalize hH1 : H.push ({ cls := dt t, slots := Array.replicate (nI N).toNatClampNeg .null, vm := .none } : Cell) = H1
  have z1 : H1.size = H.size + 1 := by rw [← hH1, Array.size_push]
  have e1 : H1[H.size]? = some (arrV (dt t) N (fun _ => .null)) := by rw [← hH1, Array.getElem?_push_size, e, ← arrV_new]
  have o1 : ∀ q : Nat, q < H.size → H1[q]? = H[q]? := fun q hq => by rw [← hH1, Array.getElem?_push, if_neg (Nat.ne_of_lt hq)]
  have hk := kk p e0 s m args below meth c D dt b b0 H1 locs ls Qs hC hKK (hR.push z1 o1 (zWF_A1 hR.1 t _) rfl ?_ (fun x hx => ?_) (fun x hx => ?_) (fun _ _ _ _ => rfl) (fun _ _ _ _ => rfl) (fun x hx => funext fun j => ?_) (fun x hx => funext fun j => ?_) (fun x hx => funext fun j => ?_)) hb (zS.grow hS (by omega) o1) hl hrm hF
  · rw [show H.size = zg b b0 (zn σ) from hR.2.1.trans hg, e]
    exact hk
  · unfold zAt
    have hK2 : zK (znA1 σ t N) (zn σ) = 100 + t := by rw [zK_znA1, if_pos rfl]
    rw [hK2, if_neg (by omega), show 100 + t - 100 = t by omega]
    refine ⟨by omega, ?_⟩
    rw [zpay_r (σ := znA1 σ t N) (t := t) hK2 hz2, vp_cell_q, ← hR.2.1, e1, zL_znA1, if_pos rfl]
    congr 2
    funext j
    rw [zR_znA1, if_pos rfl]
    rfl
  · rw [zK_znA1, if_neg hx]
  · rw [zL_znA1, if_neg hx]
  · rw [zI_znA1, if_neg hx]
  · rw [zR_znA1, if_neg hx]
  · rw [zJ_znA1, if_neg hx]
theorem zw_min {ix : Nat} {x z : Int32} (hd : decode y.2.1 pc = .ok (.invokestatic ix, 3)) (hlk : Cond.methodLink y.1.cls ix Lib.Math.min.name ∈ zT) (hrm : 1 ≤ R.frames ∧ (st.map fun v => v.category).sum + 13 ≤ R.locals) (kk : zAW l y R (pc + 3) lc (.int (if z < x then z else x) :: st) σ uc us Q) : zAW l y R pc lc (.int z :: .int x :: st) σ uc us Q := by
  intro p e s m args below meth c D dt b b0 H locs ls Qs hC hKK hR hb hS hl hu hF
  have hts := hC.2.2.2.2.2.1
  exact va_mmin hC.1 hC.2.1 (by rw [hC.2.2.2.1]; exact hl.1.symm) hC.2.2.2.2.1 (hts _ hlk) (hts _ zmin_static) (hts _ zmin_init) (hts _ zmin_code) hrm.1 (by rw [zcat]; exact hrm.2) hu.1 hu.2 hd (kk p e s m args below meth c D dt b b0 H locs ls Qs hC hKK hR hb hS hl hu hF)
theorem nnI {z : Int32} (hz : ¬ z < 0) : z.toInt = (z.toNatClampNeg : Int) := by
  have hz0 : (0 : Int) ≤ z.toInt := by
    have := Int32.not_lt.mp hz
    simpa using Int32.le_iff_toInt_le.mp this
  show z.toInt = ((z.toInt.toNat : Nat) : Int)
  omega
theorem zw_copyI {ix a0 a : Nat} {sp dp n : Int32} (hd : decode y.2.1 pc = .ok (.invokestatic ix, 3)) (hlk : Cond.methodLink y.1.cls ix arraycopyName ∈ zT) (hk0 : zK σ a0 = 100) (hk1 : zK σ a = 100) (p0 : 0 < a0) (p1 : 0 < a) (h1 : ¬ sp < 0) (h2 : ¬ dp < 0) (h3 : ¬ n < 0) (h4 : sp.toNatClampNeg + n.toNatClampNeg ≤ zL σ a0) (h5 : dp.toNatClampNeg + n.toNatClampNeg ≤ zL σ a) (hrm : 1 ≤ R.frames ∧ (st.map fun v => v.category).sum + (nativeFrameWords "java/lang/System" "arraycopy" 5 + 11) ≤ R.locals)
    (kk : zAW l y R (pc + 3) lc st (zsW σ a (va_cpy (zI σ a0) (zI σ a) sp.toNatClampNeg dp.toNatClampNeg n.toNatClampNeg)) uc us Q) : zAW l y R pc lc (.int n :: .int dp :: .ref a :: .int sp :: .ref a0 :: st) σ uc us Q := by
  intro p e s m args below meth c D dt b b0 H locs ls Qs hC hKK hR hb hS hl hu hF
  have hts := hC.2.2.2.2.2.1
  obtain ⟨w1, w2, w3, w4⟩ := hR.arr (t := 0) hk0 p0 (by decide)
  obtain ⟨v1, v2, v3, v4⟩ := hR.arr (t := 0) hk1 p1 (by decide)
  rw [zpay_i (t := 0) hk0 (by decide)] at w4
  rw [zpay_i (t := 0) hk1 (by decide)] at v4
  have hA := (hKK.arr v3).1
  intro T hT X
  obtain ⟨-, k0, hkk0, cm0, hkk1⟩ := hA (zL σ a0) (fun j => .int (zI σ a0 j))
  obtain ⟨vm', X', step⟩ := X.arraycopy hC.1 hC.2.2.2.2.1 (hts _ hlk) (hts _ zac_native) (hts _ zac_static) (hts _ zac_init) (src := zg b b0 a0) (dst := zg b b0 a) (cs := vp_cell (dt 0) (zL σ a0, .inl (zI σ a0))) (cd := vp_cell (dt 0) (zL σ a, .inl (zI σ a))) (srcPos := sp) (destPos := dp) (n := n) (by rw [hT]; exact w4) (by rw [hT]; exact v4)
    (fun _ h => by cases h) (fun _ h => by cases h) (fun h => by cases h) (fun h => by cases h) hkk0 hkk0 hkk1 hkk1 (by simp [zAT, refKind]) h1 h2 h3
    (by rw [nnI h1, nnI h3]; show ¬ _ > ((arrV (dt 0) (zL σ a0) (fun j => .int (zI σ a0 j))).slots.size : Int); rw [arrV_size]; omega)
    (by rw [nnI h2, nnI h3]; show ¬ _ > ((arrV (dt 0) (zL σ a) (fun j => .int (zI σ a j))).slots.size : Int); rw [arrV_size]; omega)
    (fun vm₁ _ i hi => by
      have e : (vp_cell (dt 0) (zL σ a0, .inl (zI σ a0))).slots.getD (sp.toNatClampNeg + i) .null = .int (zI σ a0 (sp.toNatClampNeg + i)) := by
        show (arrV (dt 0) (zL σ a0) (fun j => .int (zI σ a0 j))).slots.getD _ _ = _
        rw [Array.getD_eq_getD_getElem?, arrV_read _ _ (by omega)]
        rfl
      refine ⟨?_, ?_⟩
      · rw [e]
        rfl
      · rw [e]
        exact trivial)
    (g := F0 m pc ls (.int n :: .int dp :: .ref (zg b b0 a) :: .int sp :: .ref (zg b b0 a0) :: st.map (zv (zg b b0)))) rfl (by rw [hC.2.2.2.1]; exact hl.1) (rest := st.map (zv (zg b b0))) rfl (by rw [hC.2.1]; exact hd) hrm.1 (by show 2 * 0 + _ + _ ≤ _; rw [zcat]; omega)
  have e1 : copied (vp_cell (dt 0) (zL σ a0, .inl (zI σ a0))) (vp_cell (dt 0) (zL σ a, .inl (zI σ a))) sp dp n = vp_cell (dt 0) (zL σ a, .inl (va_cpy (zI σ a0) (zI σ a) sp.toNatClampNeg dp.toNatClampNeg n.toNatClampNeg)) := va_copied (fun z => .int z) (dt 0) (dt 0) (zI σ a0) (zI σ a) h4
  rw [e1] at X' step
  rw [v2] at v4 X' step
  have hla : b0 + a < H.size := by rw [hR.2.1]; omega
  generalize hH1 : H.setIfInBounds (b0 + a) (vp_cell (dt 0) (zL σ a, .inl (va_cpy (zI σ a0) (zI σ a) sp.toNatClampNeg dp.toNatClampNeg n.toNatClampNeg))) = H1
  have hheap : ((T.setVm vm').setCell (b0 + a) (vp_cell (dt 0) (zL σ a, .inl (va_cpy (zI σ a0) (zI σ a) sp.toNatClampNeg dp.toNatClampNeg n.toNatClampNeg)))).heap = H1 := by rw [← hH1, ← hT]; rfl
  have oq : ∀ q : Nat, q ≠ b0 + a → H1[q]? = H[q]? := fun q hq => by rw [← hH1]; simp [Array.getElem?_setIfInBounds, Ne.symm hq]
  have eq : H1[b0 + a]? = some (vp_cell (dt 0) (zL σ a, .inl (va_cpy (zI σ a0) (zI σ a) sp.toNatClampNeg dp.toNatClampNeg n.toNatClampNeg))) := by rw [← hH1]; simp [Array.getElem?_setIfInBounds, hla]
  have z1 : H1.size = H.size := by rw [← hH1]; simp
  obtain ⟨t, a1, b1⟩ := kk p e s m args below meth c D dt b b0 H1 _ ls Qs hC hKK (hR.set p1 v1 z1 oq (zWF_sW hR.1 a _) rfl (by
      unfold zAt
      rw [show zK (zsW σ a (va_cpy (zI σ a0) (zI σ a) sp.toNatClampNeg dp.toNatClampNeg n.toNatClampNeg)) a = 100 from hk1, if_neg (by decide)]
      refine ⟨by decide, ?_⟩
      rw [zpay_i (σ := zsW σ a (va_cpy (zI σ a0) (zI σ a) sp.toNatClampNeg dp.toNatClampNeg n.toNatClampNeg)) (t := 0) hk1 (by decide), eq]
      congr 3
      congr 1
      funext j
      rw [zI_zsW, if_pos rfl]) (fun _ _ => rfl) (fun _ _ => rfl) (fun _ _ _ _ => rfl) (fun _ _ _ _ => rfl) (fun q hq => funext fun j => by rw [zI_zsW, if_neg hq]) (fun _ _ => rfl) (fun _ _ => rfl)) hb
    (⟨by rw [z1]; exact hS.1, fun q g1 g2 => by
      rw [oq q (fun e => g2 (by rw [e]; show b0 < b0 + a; omega))]
      exact hS.2.1 q g1 g2, fun q hq => by
      rcases List.mem_append.mp hq with h | h
      · exact hS.2.2 q h
      · obtain ⟨z, -, hz⟩ := List.mem_map.mp h
        rw [← hz]
        show b0 < b0 + a
        omega⟩) hl hu hF _ hheap X'
  refine ⟨t, ?_, b1⟩
  have h9 := step t a1
  rw [← v2] at h9
  exact h9
end ZM
