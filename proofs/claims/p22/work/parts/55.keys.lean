/-! the class's states as a list of keys -/
theorem xSlot_old {σ : zS} {n s : Nat} {po : Nat → Nat} {k : Int32} (h : xHs σ n po) (hn : n ≤ 400) (hs : s < n) (hk : zI σ 9 s = k) : zI σ 15 (xSlot σ k) = nI s := by
  have e := xProbe_found h hn hs
  rw [hk] at e
  unfold xSlot
  rw [e]
  exact (h.2.1 s hs).2
theorem xSlot_new {σ : zS} {n : Nat} {po : Nat → Nat} {k : Int32} (h : xHs σ n po) (hn : n ≤ 400) (hk : ∀ s, s < n → zI σ 9 s ≠ k) : zI σ 15 (xSlot σ k) = -1 := by
  obtain ⟨d, -, e, e2, -⟩ := xProbe_new h hn hk
  unfold xSlot
  rw [e]
  exact e2
theorem xGo_old {σ : zS} {n s : Nat} {po : Nat → Nat} {k : Int32} (h : xHs σ n po) (hn : n ≤ 400) (hs : s < n) (hk : zI σ 9 s = k) : xGo σ k = s := by
  have e := xSlot_old h hn hs hk
  unfold xGo
  rw [e, if_neg (nI_pos (by omega)), nI_clamp (by omega)]
def xKeys (σ : zS) (n : Nat) : List Int32 := (List.range n).map (zI σ 9)
theorem xKeys_mem {σ : zS} {n : Nat} {k : Int32} : k ∈ xKeys σ n ↔ ∃ s, s < n ∧ zI σ 9 s = k := by
  unfold xKeys
  rw [List.mem_map]
  exact ⟨fun ⟨s, h1, h2⟩ => ⟨s, List.mem_range.mp h1, h2⟩, fun ⟨s, h1, h2⟩ => ⟨s, List.mem_range.mpr h1, h2⟩⟩
theorem xKeys_len (σ : zS) (n : Nat) : (xKeys σ n).length = n := by
  unfold xKeys
  rw [List.length_map, List.length_range]
theorem xKeys_cg {σ σ' : zS} {n : Nat} (h : ∀ i, i < n → zI σ' 9 i = zI σ 9 i) : xKeys σ' n = xKeys σ n := List.map_congr_left (fun i hi => h i (List.mem_range.mp hi))
/-- a state made, or found: the keys behind it -/
theorem xKeys_mk {σ : zS} {n s : Nat} {po : Nat → Nat} {k : Int32} (h : xHs σ n po) (hn : n ≤ 400) (hS : xS σ = nI n) : xKeys (xMk σ s k) (kAdd (xKeys σ n) k).length = kAdd (xKeys σ n) k := by
  unfold kAdd
  by_cases q : k ∈ xKeys σ n
  · rw [if_pos q, xKeys_len]
    obtain ⟨t, h1, h2⟩ := xKeys_mem.mp q
    unfold xMk
    rw [if_neg (by rw [xSlot_old h hn h1 h2]; exact nI_pos (by omega))]
  · rw [if_neg q, List.length_append, xKeys_len]
    have hk : ∀ t, t < n → zI σ 9 t ≠ k := fun t ht e => q (xKeys_mem.mpr ⟨t, ht, e⟩)
    unfold xMk
    rw [if_pos (by rw [xSlot_new h hn hk]; decide), hS, nI_clamp (by omega)]
    show xKeys _ (n + 1) = _
    unfold xKeys
    rw [List.range_succ, List.map_append]
    congr 1
    · exact List.map_congr_left (fun i hi => by rw [xNew_9, if_neg (Nat.ne_of_lt (List.mem_range.mp hi))])
    · show [zI _ 9 n] = [k]
      rw [xNew_9, if_pos rfl]
