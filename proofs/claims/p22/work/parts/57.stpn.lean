/-! a step added: the number of states behind it -/
theorem xAdd_xS {σ : zS} {pk T g s : Nat} {mov : Int32} : xS (xAdd σ pk T g mov s) = xS σ := by
  unfold xS xAdd
  rw [zF_zsI, zF_zsF, if_neg (by decide), zF_zsI]
theorem xGrow_xS {σ : zS} {pk : Nat} : xS (xGrow σ pk) = xS σ := rfl
theorem xMk_xS {σ : zS} {n s : Nat} {po : Nat → Nat} {k : Int32} (h : xHs σ n po) (hn : n ≤ 400) (hS : xS σ = nI n) : xS (xMk σ s k) = nI (kAdd (xKeys σ n) k).length := by
  unfold kAdd
  by_cases q : k ∈ xKeys σ n
  · rw [if_pos q, xKeys_len]
    obtain ⟨t, h1, h2⟩ := xKeys_mem.mp q
    unfold xMk
    rw [if_neg (by rw [xSlot_old h hn h1 h2]; exact nI_pos (by omega))]
    exact hS
  · rw [if_neg q, List.length_append, xKeys_len]
    have hk : ∀ t, t < n → zI σ 9 t ≠ k := fun t ht e => q (xKeys_mem.mpr ⟨t, ht, e⟩)
    unfold xMk
    rw [if_pos (by rw [xSlot_new h hn hk]; decide), hS, nI_clamp (by omega)]
    unfold xS xNew
    rw [zF_zsF, if_pos ⟨rfl, rfl, rfl⟩]
    rfl
theorem xStp_xS {σ : zS} {pk n T s : Nat} {po : Nat → Nat} {k mov : Int32} (h : xI σ pk n T po) (hf : n < 400 ∨ k ∈ xKeys σ n) : xS (xStp σ s k mov) = nI (kAdd (xKeys σ n) k).length := by
  obtain ⟨h1, h2, h3, h4, h5, h6, h7, h8, h9, h10⟩ := h
  have hno : ¬ (zI σ 15 (xSlot σ k) < 0 ∧ ¬ xS σ < 400) := by
    rintro ⟨q1, q2⟩
    rcases hf with q | q
    · exact q2 (by rw [h4]; exact (nI_lt_lit (by omega) (by decide)).mpr q)
    · obtain ⟨t, t1, t2⟩ := xKeys_mem.mp q
      rw [xSlot_old h3 h5 t1 t2] at q1
      exact absurd q1 (nI_pos (by omega))
  have hk := xMk_xS (s := s) (k := k) h3 h5 h4
  unfold xStp
  rw [if_neg hno]
  by_cases c : (xT σ).toNatClampNeg < xLen σ
  · rw [if_pos c, xAdd_xS]
    exact hk
  · rw [if_neg c, xAdd_xS, xGrow_xS]
    exact hk
theorem kAdd_le (ks : List Int32) (k : Int32) : ks.length ≤ (kAdd ks k).length ∧ (kAdd ks k).length ≤ ks.length + 1 := by
  unfold kAdd
  by_cases h : k ∈ ks
  · rw [if_pos h]; exact ⟨Nat.le_refl _, Nat.le_succ _⟩
  · rw [if_neg h, List.length_append]; exact ⟨Nat.le_add_right _ _, Nat.le_refl _⟩
/-- the invariant behind a step, its number of states told by the keys -/
theorem xI_keys {σ : zS} {pk n T s : Nat} {po : Nat → Nat} {k mov : Int32} (h : xI σ pk n T po) (hT : T ≤ 512000) (hf : n < 400 ∨ k ∈ xKeys σ n) :
    ∃ pk' T' po', xI (xStp σ s k mov) pk' (kAdd (xKeys σ n) k).length T' po' ∧ xFr σ (xStp σ s k mov) pk pk' ∧ T ≤ T' ∧ T' ≤ T + 1 ∧ zL σ pk ≤ zL (xStp σ s k mov) pk' := by
  obtain ⟨pk', n', T', po', i1, i2, i3, i4, i5, i6, i7⟩ := xI_stp (s := s) h hT k mov
  have e := xStp_xS (s := s) (mov := mov) h hf
  have hl := kAdd_le (xKeys σ n) k
  rw [xKeys_len] at hl
  have en : n' = (kAdd (xKeys σ n) k).length := (nI_eq (by have := i1.2.2.2.2.1; omega) (by have := h.2.2.2.2.1; omega)).mp (i1.2.2.2.1.symm.trans e)
  rw [en] at i1
  exact ⟨pk', T', po', i1, i2, i4, i5, i6⟩
