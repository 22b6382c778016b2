/-! a step added: the keys behind it -/
theorem xAdd_9 {σ : zS} {pk T g s : Nat} {mov : Int32} (hpk : pk ≠ 9) : zI (xAdd σ pk T g mov s) 9 = zI σ 9 := by
  funext j
  unfold xAdd
  rw [zI_zsI, if_neg (fun q => absurd q.1 (by decide)), zI_zsF, zI_zsI, if_neg (fun q => hpk q.1.symm)]
theorem xStp_keys {σ : zS} {pk n T s : Nat} {po : Nat → Nat} {k mov : Int32} (h : xI σ pk n T po) (hf : n < 400 ∨ k ∈ xKeys σ n) : xKeys (xStp σ s k mov) (kAdd (xKeys σ n) k).length = kAdd (xKeys σ n) k := by
  obtain ⟨h1, h2, h3, h4, h5, h6, h7, h8, h9, h10⟩ := h
  have hpk : xPkOf σ ≠ 9 := by
    rw [xPkOf_eq h2]
    rcases h2.2.2 with e | e <;> omega
  have hno : ¬ (zI σ 15 (xSlot σ k) < 0 ∧ ¬ xS σ < 400) := by
    rintro ⟨q1, q2⟩
    rcases hf with q | q
    · exact q2 (by rw [h4]; exact (nI_lt_lit (by omega) (by decide)).mpr q)
    · obtain ⟨t, t1, t2⟩ := xKeys_mem.mp q
      rw [xSlot_old h3 h5 t1 t2] at q1
      exact absurd q1 (nI_pos (by omega))
  have hk := xKeys_mk (s := s) (k := k) h3 h5 h4
  have h30 : (9 : Nat) ≠ zn (xMk σ s k) := by
    rw [xMk_zn]
    have := zWF_lt h10 (xk_9 h1) (by decide)
    omega
  unfold xStp
  rw [if_neg hno]
  by_cases c : (xT σ).toNatClampNeg < xLen σ
  · rw [if_pos c]
    refine Eq.trans (xKeys_cg (fun i _ => ?_)) hk
    rw [xAdd_9 hpk]
  · rw [if_neg c]
    refine Eq.trans (xKeys_cg (fun i _ => ?_)) hk
    rw [xAdd_9 (by have := zWF_lt h10 (xk_29 h1) (by decide); omega), xGrow_I _ h30]
theorem xStp_full {σ : zS} {pk n T s : Nat} {po : Nat → Nat} {k mov : Int32} (h : xI σ pk n T po) (hn : n = 400) (hk : k ∉ xKeys σ n) : xStp σ s k mov = zsF σ 3 10 8 1 := by
  obtain ⟨h1, h2, h3, h4, h5, h6, h7, h8, h9, h10⟩ := h
  unfold xStp
  rw [if_pos ⟨by rw [xSlot_new h3 h5 (fun t ht e => hk (xKeys_mem.mpr ⟨t, ht, e⟩))]; decide, by rw [h4, hn]; decide⟩]
