/-! arrays -/
section ZA
variable {l : Launch} {y : zM} {R : Room} {pc : Nat} {lc : List (Nat × Value)} {st : List Value} {σ : zS} {uc us : Nat} {Q : Option Value → zS → Prop}
theorem vp_in_lt {i : Int32} {n : Nat} (h : vp_in i n) : i.toNatClampNeg < n := Nat.not_le.mp fun q => h (Or.inr q)
theorem zpay_i {g : Nat → Nat} {σ : zS} {a t : Nat} (hk : zK σ a = 100 + t) (h : zak t = 0) : zpay g σ a = .inl (zI σ a) := by
  unfold zpay
  rw [hk, show 100 + t - 100 = t by omega, if_pos h]
theorem zpay_l {g : Nat → Nat} {σ : zS} {a t : Nat} (hk : zK σ a = 100 + t) (h : zak t = 1) : zpay g σ a = .inr (.inl (zJ σ a)) := by
  unfold zpay
  rw [hk, show 100 + t - 100 = t by omega, if_neg (by omega), if_pos h]
theorem zpay_r {g : Nat → Nat} {σ : zS} {a t : Nat} (hk : zK σ a = 100 + t) (h : zak t = 2) : zpay g σ a = .inr (.inr (.inr (.inr (fun i => (zR σ a i).map g)))) := by
  unfold zpay
  rw [hk, show 100 + t - 100 = t by omega, if_neg (by omega), if_neg (by omega)]
theorem zw_iaload {a : Nat} {i : Int32} (hd : decode y.2.1 pc = .ok (.iaload, 1)) (hk : zK σ a = 100) (hin : vp_in i (zL σ a)) (kk : zAW l y R (pc + 1) lc (.int (zI σ a i.toNatClampNeg) :: st) σ uc us Q) : zAW l y R pc lc (.int i :: .ref a :: st) σ uc us Q := by
  intro p e s m args below meth c D dt b b0 H locs ls Qs hC hKK hR hb hS hl hu hF
  have kk2 := kk p e s m args below meth c D dt b b0 H locs ls Qs hC hKK hR hb hS hl hu hF
  have hlt := vp_in_lt hin
  rcases Nat.eq_zero_or_pos a with h0 | h0
  · subst h0
    obtain ⟨scr, g1, g2, g3, g4, g5⟩ := hR.2.2.2.2.1
    exact W.iald (v := .int (zI σ 0 i.toNatClampNeg)) hC.1 hC.2.1 g1 g2 g3 (by rw [g4]; exact hin) (g5 _ hlt) rfl rfl hd kk2
  · obtain ⟨h1, h2, h3, h4⟩ := hR.arr (t := 0) hk h0 (by decide)
    rw [zpay_i (t := 0) hk (by decide), vp_cell_i] at h4
    exact W.iald (v := .int (zI σ a i.toNatClampNeg)) hC.1 hC.2.1 h4 ((hKK.arr h3).1 _ _) (fun q => by cases q) (by rw [arrV_size]; exact hin) (arrV_read _ _ hlt) rfl rfl hd kk2
theorem zw_baload {a : Nat} {i : Int32} (hd : decode y.2.1 pc = .ok (.baload, 1)) (hk : zK σ a = 101) (hin : vp_in i (zL σ a)) (kk : zAW l y R (pc + 1) lc (.int (zI σ a i.toNatClampNeg) :: st) σ uc us Q) : zAW l y R pc lc (.int i :: .ref a :: st) σ uc us Q := by
  intro p e s m args below meth c D dt b b0 H locs ls Qs hC hKK hR hb hS hl hu hF
  have kk2 := kk p e s m args below meth c D dt b b0 H locs ls Qs hC hKK hR hb hS hl hu hF
  have hlt := vp_in_lt hin
  have h0 := zWF_pos hR.1 hk (by decide)
  obtain ⟨h1, h2, h3, h4⟩ := hR.arr (t := 1) hk h0 (by decide)
  rw [zpay_i (t := 1) hk (by decide), vp_cell_i] at h4
  exact W.zald (v := .int (zI σ a i.toNatClampNeg)) hC.1 hC.2.1 h4 ((hKK.arr h3).1 _ _) (fun q => by cases q) (by rw [arrV_size]; exact hin) (arrV_read _ _ hlt) rfl rfl hd kk2
theorem zw_aaload {a t : Nat} {i : Int32} (hd : decode y.2.1 pc = .ok (.aaload, 1)) (hk : zK σ a = 100 + t) (hz : zak t = 2) (ht : t < 800) (hin : vp_in i (zL σ a)) (kk : zAW l y R (pc + 1) lc (va_rf (zR σ a i.toNatClampNeg) :: st) σ uc us Q) : zAW l y R pc lc (.int i :: .ref a :: st) σ uc us Q := by
  intro p e s m args below meth c D dt b b0 H locs ls Qs hC hKK hR hb hS hl hu hF
  have kk2 := kk p e s m args below meth c D dt b b0 H locs ls Qs hC hKK hR hb hS hl hu hF
  have hlt := vp_in_lt hin
  have ht0 : t ≠ 0 := fun q => by subst q; exact absurd hz (by decide)
  have h0 := zWF_pos hR.1 hk (by omega)
  obtain ⟨h1, h2, h3, h4⟩ := hR.arr (t := t) hk h0 ht
  rw [zpay_r hk hz, vp_cell_q] at h4
  have hty : (zAT t).isReference = true := by
    unfold zak at hz
    split at hz
    · assumption
    · split at hz <;> omega
  exact W.aald (v := zv (zg b b0) (va_rf (zR σ a i.toNatClampNeg))) (ty := zAT t) hC.1 hC.2.1 h4 ((hKK.arr h3).1 _ _) hty (fun q => by cases q) (by rw [arrV_size]; exact hin) (by rw [arrV_read _ _ hlt, zv_rf]) rfl rfl hd kk2
theorem zw_laload {a t : Nat} {i : Int32} (hd : decode y.2.1 pc = .ok (.laload, 1)) (hk : zK σ a = 100 + t) (hz : zAT t = .long) (ht : t < 800) (hin : vp_in i (zL σ a)) (kk : zAW l y R (pc + 1) lc (.long (zJ σ a i.toNatClampNeg) :: st) σ uc us Q) : zAW l y R pc lc (.int i :: .ref a :: st) σ uc us Q := by
  intro p e s m args below meth c D dt b b0 H locs ls Qs hC hKK hR hb hS hl hu hF
  have kk2 := kk p e s m args below meth c D dt b b0 H locs ls Qs hC hKK hR hb hS hl hu hF
  have hlt := vp_in_lt hin
  have ht0 : t ≠ 0 := fun q => by subst q; exact absurd hz (by decide)
  have h0 := zWF_pos hR.1 hk (by omega)
  obtain ⟨h1, h2, h3, h4⟩ := hR.arr (t := t) hk h0 ht
  have hz1 : zak t = 1 := by unfold zak; rw [hz]; rfl
  rw [zpay_l hk hz1, vp_cell_l] at h4
  have harr := (hKK.arr h3).1
  rw [hz] at harr
  exact W.lald (v := .long (zJ σ a i.toNatClampNeg)) hC.1 hC.2.1 h4 (harr _ _) (fun q => by cases q) (by rw [arrV_size]; exact hin) (arrV_read _ _ hlt) rfl rfl hd kk2
theorem zw_alen {a t : Nat} (hd : decode y.2.1 pc = .ok (.arraylength, 1)) (hk : zK σ a = 100 + t) (ht : t < 800) (kk : zAW l y R (pc + 1) lc (.int (nI (zL σ a)) :: st) σ uc us Q) : zAW l y R pc lc (.ref a :: st) σ uc us Q := by
  intro p e s m args below meth c D dt b b0 H locs ls Qs hC hKK hR hb hS hl hu hF
  have kk2 := kk p e s m args below meth c D dt b b0 H locs ls Qs hC hKK hR hb hS hl hu hF
  rcases Nat.eq_zero_or_pos a with h0 | h0
  · subst h0
    obtain ⟨scr, g1, g2, g3, g4, g5⟩ := hR.2.2.2.2.1
    exact W.alen (n := nI (zL σ 0)) hC.1 hC.2.1 g1 g2 (by rw [g4]; rfl) rfl rfl hd kk2
  · obtain ⟨h1, h2, h3, h4⟩ := hR.arr (t := t) hk h0 ht
    have hsz : ∀ x : (Nat → Int32) ⊕ (Nat → Int64) ⊕ (Nat → UInt32) ⊕ (Nat → UInt64) ⊕ (Nat → Option Nat), (vp_cell (dt t) (zL σ a, x)).slots.size = zL σ a := by
      rintro (f | f | f | f | f) <;> exact arrV_size _ _ _
    have har : ∀ x : (Nat → Int32) ⊕ (Nat → Int64) ⊕ (Nat → UInt32) ⊕ (Nat → UInt64) ⊕ (Nat → Option Nat), s.isArrayOf (vp_cell (dt t) (zL σ a, x)) (zAT t) := by
      rintro (f | f | f | f | f) <;> exact (hKK.arr h3).1 _ _
    exact W.alen (n := nI (zL σ a)) hC.1 hC.2.1 h4 (har _) (by rw [hsz]; rfl) rfl rfl hd kk2
theorem zw_iastore {a : Nat} {i x : Int32} (hd : decode y.2.1 pc = .ok (.iastore, 1)) (hk : zK σ a = 100) (h0 : 0 < a) (hin : vp_in i (zL σ a)) (kk : zAW l y R (pc + 1) lc st (zsI σ a i.toNatClampNeg x) uc us Q) : zAW l y R pc lc (.int x :: .int i :: .ref a :: st) σ uc us Q := by
  intro p e s m args below meth c D dt b b0 H locs ls Qs hC hKK hR hb hS hl hu hF
  obtain ⟨h1, h2, h3, h4⟩ := hR.arr (t := 0) hk h0 (by decide)
  rw [zpay_i (t := 0) hk (by decide), vp_cell_i] at h4
  refine W.iast hC.1 hC.2.1 h4 ((hKK.arr h3).1 _ _) (fun q => by cases q) (by rw [arrV_size]; exact hin) rfl rfl hd fun H1 e1 z oq => ?_
  rw [h2] at e1 oq ⊢
  refine kk p e s m args below meth c D dt b b0 H1 _ ls Qs hC hKK (hR.set h0 h1 z oq (zWF_sI hR.1 a _ x) rfl ?_ (fun _ _ => rfl) (fun _ _ => rfl) (fun _ _ _ _ => rfl) (fun _ _ _ _ => rfl) (fun q hq => funext fun j => ?_) (fun _ _ => rfl) (fun _ _ => rfl)) hb (zS.put hS z oq h0) hl hu hF
  · unfold zAt
    rw [show zK (zsI σ a i.toNatClampNeg x) a = 100 from hk, if_neg (by decide)]
    refine ⟨by decide, ?_⟩
    rw [zpay_i (σ := zsI σ a i.toNatClampNeg x) (t := 0) hk (by decide), vp_cell_i, e1, arrV_store]
    congr 2
    funext j
    by_cases hj : j = i.toNatClampNeg
    · subst hj
      simp [updV, zI_zsI]
    · simp [updV, zI_zsI, hj]
  · rw [zI_zsI, if_neg (fun z => hq z.1)]
theorem zw_bastore {a : Nat} {i x : Int32} (hd : decode y.2.1 pc = .ok (.bastore, 1)) (hk : zK σ a = 101) (hx : narrow .boolean (.int x) = .int x) (hin : vp_in i (zL σ a)) (kk : zAW l y R (pc + 1) lc st (zsI σ a i.toNatClampNeg x) uc us Q) : zAW l y R pc lc (.int x :: .int i :: .ref a :: st) σ uc us Q := by
  intro p e s m args below meth c D dt b b0 H locs ls Qs hC hKK hR hb hS hl hu hF
  have h0 := zWF_pos hR.1 hk (by decide)
  obtain ⟨h1, h2, h3, h4⟩ := hR.arr (t := 1) hk h0 (by decide)
  rw [zpay_i (t := 1) hk (by decide), vp_cell_i] at h4
  refine W.zast hC.1 hC.2.1 h4 ((hKK.arr h3).1 _ _) (fun q => by cases q) (by rw [arrV_size]; exact hin) rfl rfl hd fun H1 e1 z oq => ?_
  rw [h2] at e1 oq ⊢
  refine kk p e s m args below meth c D dt b b0 H1 _ ls Qs hC hKK (hR.set h0 h1 z oq (zWF_sI hR.1 a _ x) rfl ?_ (fun _ _ => rfl) (fun _ _ => rfl) (fun _ _ _ _ => rfl) (fun _ _ _ _ => rfl) (fun q hq => funext fun j => ?_) (fun _ _ => rfl) (fun _ _ => rfl)) hb (zS.put hS z oq h0) hl hu hF
  · unfold zAt
    rw [show zK (zsI σ a i.toNatClampNeg x) a = 101 from hk, if_neg (by decide)]
    refine ⟨by decide, ?_⟩
    rw [zpay_i (σ := zsI σ a i.toNatClampNeg x) (t := 1) hk (by decide), vp_cell_i, e1, hx, arrV_store]
    congr 2
    funext j
    by_cases hj : j = i.toNatClampNeg
    · subst hj
      simp [updV, zI_zsI]
    · simp [updV, zI_zsI, hj]
  · rw [zI_zsI, if_neg (fun z => hq z.1)]
theorem zw_lastore {a t : Nat} {i : Int32} {x : Int64} (hd : decode y.2.1 pc = .ok (.lastore, 1)) (hk : zK σ a = 100 + t) (hz : zAT t = .long) (ht : t < 800) (hin : vp_in i (zL σ a)) (kk : zAW l y R (pc + 1) lc st (zsJ σ a i.toNatClampNeg x) uc us Q) : zAW l y R pc lc (.long x :: .int i :: .ref a :: st) σ uc us Q := by
  intro p e s m args below meth c D dt b b0 H locs ls Qs hC hKK hR hb hS hl hu hF
  have ht0 : t ≠ 0 := fun q => by subst q; exact absurd hz (by decide)
  have h0 := zWF_pos hR.1 hk (by omega)
  obtain ⟨h1, h2, h3, h4⟩ := hR.arr (t := t) hk h0 ht
  have hz1 : zak t = 1 := by unfold zak; rw [hz]; rfl
  rw [zpay_l hk hz1, vp_cell_l] at h4
  have harr := (hKK.arr h3).1
  rw [hz] at harr
  refine W.last hC.1 hC.2.1 h4 (harr _ _) (fun q => by cases q) (by rw [arrV_size]; exact hin) rfl rfl hd fun H1 e1 z oq => ?_
  rw [h2] at e1 oq ⊢
  refine kk p e s m args below meth c D dt b b0 H1 _ ls Qs hC hKK (hR.set h0 h1 z oq (zWF_sJ hR.1 a _ x) rfl ?_ (fun _ _ => rfl) (fun _ _ => rfl) (fun _ _ _ _ => rfl) (fun _ _ _ _ => rfl) (fun _ _ => rfl) (fun _ _ => rfl) (fun q hq => funext fun j => ?_)) hb (zS.put hS z oq h0) hl hu hF
  · unfold zAt
    rw [show zK (zsJ σ a i.toNatClampNeg x) a = 100 + t from hk, if_neg (by omega)]
    refine ⟨by omega, ?_⟩
    rw [show 100 + t - 100 = t by omega, zpay_l (σ := zsJ σ a i.toNatClampNeg x) (t := t) hk hz1, vp_cell_l, e1, arrV_store]
    congr 2
    funext j
    by_cases hj : j = i.toNatClampNeg
    · subst hj
      simp [updV, zJ_zsJ]
    · simp [updV, zJ_zsJ, hj]
  · rw [zJ_zsJ, if_neg (fun z => hq z.1)]
/-- an object put into an array of its class -/
theorem zw_aastore {a t v c' : Nat} {i : Int32} (hd : decode y.2.1 pc = .ok (.aastore, 1)) (hk : zK σ a = 100 + t) (ht : t < 800) (hz : zAT t = .object (zcl c').1) (hv : zK σ v = c') (hc : c' < 100) (hin : vp_in i (zL σ a)) (kk : zAW l y R (pc + 1) lc st (zsR σ a i.toNatClampNeg (some v)) uc us Q) : zAW l y R pc lc (.ref v :: .int i :: .ref a :: st) σ uc us Q := by
  intro p e s m args below meth c D dt b b0 H locs ls Qs hC hKK hR hb hS hl hu hF
  have hz2 : zak t = 2 := by unfold zak; rw [hz]; rfl
  have ht0 : t ≠ 0 := fun q => by subst q; exact absurd hz2 (by decide)
  have h0 := zWF_pos hR.1 hk (by omega)
  obtain ⟨h1, h2, h3, h4⟩ := hR.arr (t := t) hk h0 ht
  rw [zpay_r hk hz2, vp_cell_q] at h4
  obtain ⟨w0, w1, w2, w3, cellV, g1, g2, g3, -⟩ := hR.obj hv hc
  have hcls := (hKK.1.1 c' _ (zCl_all c' w3).1).2
  have hra := (hKK.arr h3).2
  rw [hz] at hra
  obtain ⟨kA, comp, k1, k2, k3, -⟩ := hra
  have hcomp : comp = D.1 c' := Option.some.inj (k3.symm.trans hcls.1)
  subst hcomp
  obtain ⟨kC, hkC, -⟩ := hcls.2
  refine W.aast hC.1 hC.2.1 h4 (fun q h => by cases h) (fun h => by cases h) k1 k2 rfl hkC ⟨fun q => hin (Or.inl q), by rw [arrV_size]; exact vp_in_lt hin⟩ g1 (fun q h => by rw [g3] at h; cases h) (by rw [g2]; exact hkC) (by rw [g2]; exact va_assign hcls) rfl rfl hd fun H1 e1 z oq => ?_
  rw [h2] at e1 oq ⊢
  refine kk p e s m args below meth c D dt b b0 H1 _ ls Qs hC hKK (hR.set h0 h1 z oq (zWF_sR hR.1 a _ (some v)) rfl ?_ (fun _ _ => rfl) (fun _ _ => rfl) (fun _ _ _ _ => rfl) (fun _ _ _ _ => rfl) (fun _ _ => rfl) (fun q hq => funext fun j => ?_) (fun _ _ => rfl)) hb (zS.put hS z oq h0) hl hu hF
  · unfold zAt
    rw [show zK (zsR σ a i.toNatClampNeg (some v)) a = 100 + t from hk, if_neg (by omega)]
    refine ⟨by omega, ?_⟩
    rw [show 100 + t - 100 = t by omega, zpay_r (σ := zsR σ a i.toNatClampNeg (some v)) (t := t) hk hz2, vp_cell_q, e1, arrV_store]
    congr 2
    funext j
    by_cases hj : j = i.toNatClampNeg
    · subst hj
      simp [updV, zR_zsR, va_rf]
    · simp [updV, zR_zsR, hj]
  · rw [zR_zsR, if_neg (fun z => hq z.1)]
/-- one cell come new -/
theorem zRep.push {D : va_G} {dt : Nat → ClassId} {b b0 : Nat} {σ σ' : zS} {U : State} {H H1 : Heap} (h : zRep D dt b b0 σ U H) (hz : H1.size = H.size + 1) (ho : ∀ x, x < H.size → H1[x]? = H[x]?) (hwf : zWF σ') (hn : zn σ' = zn σ + 1)
    (hat : zAt D dt (zg b b0) σ' (zn σ) H1 (b0 + zn σ)) (e1 : ∀ x, x ≠ zn σ → zK σ' x = zK σ x) (e2 : ∀ x, x ≠ zn σ → zL σ' x = zL σ x) (e3 : ∀ x, x ≠ zn σ → ∀ c k, zF σ' c k x = zF σ c k x) (e4 : ∀ x, x ≠ zn σ → ∀ c k, zG σ' c k x = zG σ c k x) (e5 : ∀ x, x ≠ zn σ → zI σ' x = zI σ x) (e6 : ∀ x, x ≠ zn σ → zR σ' x = zR σ x) (e7 : ∀ x, x ≠ zn σ → zJ σ' x = zJ σ x) : zRep D dt b b0 σ' U H1 := by
  have hpos := h.1.1
  refine ⟨hwf, by rw [hz, hn, h.2.1]; omega, h.2.2.1, fun k k0 kn kq => ?_, ?_, h.2.2.2.2.2.kept (fun x hx _ => ho x hx)⟩
  · by_cases e : k = zn σ
    · subst e
      exact hat
    · rw [hn] at kn
      exact ((h.2.2.2.1 k k0 (by omega) (by rw [← e1 k e]; exact kq)).same (e1 k e) (e2 k e) (e3 k e) (e4 k e) (e5 k e) (e6 k e) (e7 k e)).kept (ho _ (by rw [h.2.1]; omega))
  · rw [e2 0 (by omega), e5 0 (by omega)]
    exact h.2.2.2.2.1.kept (ho b (by have := h.2.2.1; rw [h.2.1]; omega))
theorem zS.grow {b0 : Nat} {H0 H H1 : Heap} {locs : List Loc} (h : va_S (fun q => b0 < q) H0 H locs) (z : H.size ≤ H1.size) (ho : ∀ x, x < H.size → H1[x]? = H[x]?) : va_S (fun q => b0 < q) H0 H1 locs := ⟨Nat.le_trans h.1 z, fun x h1 h2 => (ho x (Nat.lt_of_lt_of_le h1 h.1)).trans (h.2.1 x h1 h2), h.2.2⟩
theorem zw_new {ix c : Nat} (hd : decode y.2.1 pc = .ok (.new ix, 3)) (hf : zNW y.1.cls ix c) (hdef : ∀ k, k < (zcl c).2.2 → defaultValue (zFT c k) = if zir c k = true then .null else .int 0) (hc : c < 100) (hrm : uc + 1 ≤ R.cells ∧ us + (zcl c).2.2 ≤ R.slots) (kk : zAW l y R (pc + 3) lc (.ref (zn σ) :: st) (znC1 σ c) (uc + 1) (us + (zcl c).2.2) Q) : zAW l y R pc lc st σ uc us Q := by
  intro p e s m args below meth cd D dt b b0 H locs ls Qs hC hKK hR hb hS hl hu hF
  obtain ⟨h1, h2, h3, h4⟩ := hf
  obtain ⟨hv1, hin, hty, hnm⟩ := zCl_all c h1
  have hts := hC.2.2.2.2.2.1
  have hKn := hKK.1.1 c _ hv1
  refine W.newcK hC.1 hC.2.1 hC.2.2.2.2.1 (hts _ h2) (hts _ h3) (hts _ h4) rfl hd hrm.1 hrm.2 hKn.2.1 hR.2.1 fun H1 kC hkC e1 z1 o1 => ?_
  rw [← zg_pos (b := b) hR.1.1] at *
  have e2 := u_born (zFT c) hts hin hKn hkC e1 hty
  refine kk p e s m args below meth cd D dt b b0 H1 _ ls Qs hC hKK (hR.push (by rw [z1, zg_pos hR.1.1, hR.2.1]) (fun x hx => o1 x (by rw [zg_pos hR.1.1, ← hR.2.1]; exact hx)) (zWF_C1 hR.1 c) rfl ?_ (fun x hx => ?_) (fun _ _ => rfl) (fun x hx c k => ?_) (fun x hx c k => ?_) (fun _ _ => rfl) (fun _ _ => rfl) (fun _ _ => rfl)) hb (zS.grow hS (by rw [z1, zg_pos hR.1.1, hR.2.1]; omega) (fun x hx => o1 x (by rw [zg_pos hR.1.1, ← hR.2.1]; exact hx))) hl hrm hF
  · unfold zAt
    rw [zK_znC1, if_pos rfl, if_pos hc]
    refine ⟨h1, ?_⟩
    rw [← zg_pos (b := b) hR.1.1]
    refine e2.to (fun k hk => ?_)
    rw [hdef k hk]
    unfold zfv
    by_cases q : zir c k = true
    · rw [if_pos q, if_pos q, zG_znC1, if_pos rfl]
      rfl
    · rw [if_neg q, if_neg q, zF_znC1, if_pos rfl]
      rfl
  · rw [zK_znC1, if_neg hx]
  · rw [zF_znC1, if_neg hx]
  · rw [zG_znC1, if_neg hx]
/-- a new array of numbers -/
theorem zw_newarray {at0 : ArrayType} {t : Nat} {n : Int32} (hd : decode y.2.1 pc = .ok (.newarray at0, 2)) (ht : t < znA) (ht2 : t < 800) (hty : newarray.typeOf at0 = zAT t) (hw : Cond.arrayClass (newarray.typeOf at0) ∈ zT) (hdef : ∀ c N, vp_cell c (N, if zak t = 0 then .inl (fun _ => 0) else if zak t = 1 then .inr (.inl (fun _ => 0)) else .inr (.inr (.inr (.inr (fun _ => none))))) = arrV c N (fun _ => defaultValue (newarray.typeOf at0))) (hn : ¬ n < 0) (hby : n.toNatClampNeg * componentBytes (newarray.typeOf at0) ≤ 536870912) (hrm : uc + 1 ≤ R.cells ∧ us + n.toNatClampNeg ≤ R.slots) (kk : zAW l y R (pc + 2) lc (.ref (zn σ) :: st) (znA1 σ t n.toNatClampNeg) (uc + 1) (us + n.toNatClampNeg) Q) : zAW l y R pc lc (.int n :: st) σ uc us Q := by
  intro p e s m args below meth c D dt b b0 H locs ls Qs hC hKK hR hb hS hl hu hF
  have hts := hC.2.2.2.2.2.1
  have hg : b0 + zn σ = zg b b0 (zn σ) := (zg_pos hR.1.1).symm
  refine va_newaK hC.1 hC.2.1 (hts _ hw) rfl hd rfl hn rfl hby hrm.1 hrm.2 hR.2.1 fun H1 cA e1 z1 o1 hAr hNm => ?_
  have hcA : cA = dt t := by
    have h2 := (hKK.arr ht).2
    rw [← hty] at h2
    have h3 : s.vm.findClass ("[" ++ (newarray.typeOf at0).toString) = some (dt t) := by
      cases at0 <;> exact h2
    exact Option.some.inj (hNm.symm.trans h3)
  subst hcA
  have hz : H1.size = H.size + 1 := by rw [z1, hR.2.1]
  have ho : ∀ x, x < H.size → H1[x]? = H[x]? := fun x hx => o1 x (by rw [← hR.2.1]; exact hx)
  have hk := kk p e s m args below meth c D dt b b0 H1 locs ls Qs hC hKK (hR.push hz ho (zWF_A1 hR.1 t _) rfl ?_ (fun x hx => ?_) (fun x hx => ?_) (fun _ _ _ _ => rfl) (fun _ _ _ _ => rfl) (fun x hx => funext fun j => ?_) (fun x hx => funext fun j => ?_) (fun x hx => funext fun j => ?_)) hb (zS.grow hS (by omega) ho) hl hrm hF
  · rw [hg]
    exact hk
  · unfold zAt
    have hK2 : zK (znA1 σ t n.toNatClampNeg) (zn σ) = 100 + t := by rw [zK_znA1, if_pos rfl]
    rw [hK2, if_neg (by omega), show 100 + t - 100 = t by omega, e1]
    refine ⟨by omega, ?_⟩
    rw [← hdef]
    congr 2
    rw [zL_znA1, if_pos rfl]
    congr 1
    unfold zpay
    rw [hK2, show 100 + t - 100 = t by omega]
    have f1 : zI (znA1 σ t n.toNatClampNeg) (zn σ) = fun _ => 0 := funext fun j => by rw [zI_znA1, if_pos rfl]
    have f2 : zJ (znA1 σ t n.toNatClampNeg) (zn σ) = fun _ => 0 := funext fun j => by rw [zJ_znA1, if_pos rfl]
    have f3 : (fun i => (zR (znA1 σ t n.toNatClampNeg) (zn σ) i).map (zg b b0)) = fun _ => none := funext fun j => by rw [zR_znA1, if_pos rfl]; rfl
    rw [f1, f2, f3]
  · rw [zK_znA1, if_neg hx]
  · rw [zL_znA1, if_neg hx]
  · rw [zI_znA1, if_neg hx]
  · rw [zR_znA1, if_neg hx]
  · rw [zJ_znA1, if_neg hx]
end ZA
