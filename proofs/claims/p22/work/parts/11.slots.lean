/-! the slots as a table of keys -/
theorem pigeon : ∀ (n m : Nat) (f : Nat → Nat), n < m → ∃ t, t < m ∧ ∀ s, s < n → f s ≠ t
  | 0, m, f, h => ⟨0, h, fun s hs => by omega⟩
  | n + 1, m, f, h => by
    obtain ⟨t, h1, h2⟩ := pigeon n (m - 1) (fun s => if f n < f s then f s - 1 else f s) (by omega)
    by_cases ht : f n ≤ t
    · refine ⟨t + 1, by omega, fun s hs e => ?_⟩
      by_cases hsn : s = n
      · subst hsn
        omega
      · refine h2 s (by omega) ?_
        show (if f n < f s then f s - 1 else f s) = t
        rw [if_pos (by omega)]
        omega
    · refine ⟨t, by omega, fun s hs e => ?_⟩
      by_cases hsn : s = n
      · subst hsn
        omega
      · refine h2 s (by omega) ?_
        show (if f n < f s then f s - 1 else f s) = t
        rw [if_neg (by omega)]
        exact e
/-- n states lie in the slots: where each lies (at the place po s), what lies in the way to it, and that no two have one key -/
def xHs (σ : zS) (n : Nat) (po : Nat → Nat) : Prop :=
  (∀ t, t < 1024 → (zI σ 15 t = -1 ∨ ∃ s, s < n ∧ zI σ 15 t = nI s ∧ po s = t)) ∧
  (∀ s, s < n → po s < 1024 ∧ zI σ 15 (po s) = nI s) ∧
  (∀ s, s < n → ∃ d, d < 1024 ∧ po s = (xHash (zI σ 9 s) + d) % 1024 ∧ ∀ j, j < d → zI σ 15 ((xHash (zI σ 9 s) + j) % 1024) ≠ -1) ∧
  (∀ s s', s < n → s' < n → zI σ 9 s = zI σ 9 s' → s = s')
theorem xHs.sl {σ : zS} {n : Nat} {po : Nat → Nat} (h : xHs σ n po) (hn : n ≤ 400) : xSl σ := fun t ht => by
  rcases h.1 t ht with e | ⟨s, h1, h2, -⟩
  · rw [e]
    exact Or.inl (by decide)
  · exact Or.inr ⟨s, by omega, h2⟩
theorem m1_neg : (-1 : Int32) < 0 := by decide
/-- the walk from the slot (a + j) with the turns that are left, where it ends at (a + d) -/
theorem xProbe_walk {σ : zS} {k : Int32} {a d : Nat} (hstop : zI σ 15 ((a + d) % 1024) < 0 ∨ zI σ 9 (zI σ 15 ((a + d) % 1024)).toNatClampNeg = k)
    (hgo : ∀ j, j < d → ¬ zI σ 15 ((a + j) % 1024) < 0 ∧ ¬ zI σ 9 (zI σ 15 ((a + j) % 1024)).toNatClampNeg = k) : ∀ (r j : Nat), j + r = d → ∀ m, r < m → xProbe σ k m ((a + j) % 1024) = (a + d) % 1024
  | 0, j, hj, m, hm => by
    have hj : j = d := by omega
    subst hj
    cases m with
    | zero => omega
    | succ m =>
      unfold xProbe
      rcases hstop with q | q
      · rw [if_pos q]
      · by_cases q2 : zI σ 15 ((a + j) % 1024) < 0
        · rw [if_pos q2]
        · rw [if_neg q2, if_pos q]
  | r + 1, j, hj, m, hm => by
    cases m with
    | zero => omega
    | succ m =>
      unfold xProbe
      have h1 := hgo j (by omega)
      rw [if_neg h1.1, if_neg h1.2]
      have e : ((a + j) % 1024 + 1) % 1024 = (a + (j + 1)) % 1024 := by omega
      rw [e]
      exact xProbe_walk hstop hgo r (j + 1) (by omega) m (by omega)
theorem xProbe_found {σ : zS} {n : Nat} {po : Nat → Nat} (h : xHs σ n po) (hn : n ≤ 400) {s : Nat} (hs : s < n) : xProbe σ (zI σ 9 s) 1024 (xHash (zI σ 9 s)) = po s := by
  obtain ⟨d, h1, h2, h3⟩ := h.2.2.1 s hs
  have hl := xHash_lt (zI σ 9 s)
  have key := xProbe_walk (σ := σ) (k := zI σ 9 s) (a := xHash (zI σ 9 s)) (d := d) (Or.inr ?_) (fun j hj => ⟨?_, ?_⟩) d 0 (by omega) 1024 h1
  · rw [Nat.add_zero, Nat.mod_eq_of_lt hl] at key
    rw [key, h2]
  · rw [← h2, (h.2.1 s hs).2, nI_clamp (by omega)]
  · intro q
    rcases h.1 ((xHash (zI σ 9 s) + j) % 1024) (by omega) with e | ⟨s', e1, e2, e3⟩
    · exact h3 j hj e
    · rw [e2] at q
      exact nI_pos (by omega) q
  · intro q
    rcases h.1 ((xHash (zI σ 9 s) + j) % 1024) (by omega) with e | ⟨s', e1, e2, e3⟩
    · exact h3 j hj e
    · rw [e2, nI_clamp (by omega)] at q
      have := h.2.2.2 s' s e1 hs q
      subst this
      omega
theorem md_1024 (a t : Nat) (ha : a < 1024) (ht : t < 1024) : (a + (t + 1024 - a) % 1024) % 1024 = t := by omega
theorem xProbe_new {σ : zS} {n : Nat} {po : Nat → Nat} (h : xHs σ n po) (hn : n ≤ 400) {k : Int32} (hk : ∀ s, s < n → zI σ 9 s ≠ k) : ∃ d, d < 1024 ∧ xProbe σ k 1024 (xHash k) = (xHash k + d) % 1024 ∧ zI σ 15 ((xHash k + d) % 1024) = -1 ∧ ∀ j, j < d → zI σ 15 ((xHash k + j) % 1024) ≠ -1 := by
  have hl := xHash_lt k
  obtain ⟨t, ht, hf⟩ := pigeon n 1024 po (by omega)
  have hfree : zI σ 15 t = -1 := by
    rcases h.1 t ht with e | ⟨s, e1, e2, e3⟩
    · exact e
    · exact absurd e3 (hf s e1)
  have hmd := md_1024 (xHash k) t hl ht
  have hfree2 : zI σ 15 ((xHash k + (t + 1024 - xHash k) % 1024) % 1024) = -1 := by rw [hmd]; exact hfree
  obtain ⟨d, hd1, hd3⟩ := pk_least (fun d => zI σ 15 ((xHash k + d) % 1024) = -1) ⟨(t + 1024 - xHash k) % 1024, hfree2⟩
  have hd1 : zI σ 15 ((xHash k + d) % 1024) = -1 := hd1
  have hd2 : ∀ j, j < d → zI σ 15 ((xHash k + j) % 1024) ≠ -1 := fun j hj => hd3 j hj
  have hd : d < 1024 := by
    rcases Nat.lt_or_ge d 1024 with q | q
    · exact q
    · have hlt : (t + 1024 - xHash k) % 1024 < d := Nat.lt_of_lt_of_le (Nat.mod_lt _ (by decide)) q
      exact absurd hfree2 (hd2 _ hlt)
  refine ⟨d, hd, ?_, hd1, hd2⟩
  have key := xProbe_walk (σ := σ) (k := k) (a := xHash k) (d := d) (Or.inl (by rw [hd1]; exact m1_neg)) (fun j hj => ?_) d 0 (by omega) 1024 hd
  · rw [Nat.add_zero, Nat.mod_eq_of_lt hl] at key
    exact key
  · rcases h.1 ((xHash k + j) % 1024) (by omega) with e | ⟨s, e1, e2, e3⟩
    · exact absurd e (hd2 j hj)
    · rw [e2, nI_clamp (by omega)]
      exact ⟨nI_pos (by omega), hk s e1⟩
theorem nI_nm1 {s : Nat} (h : s < 2 ^ 31) : nI s ≠ -1 := fun e => by
  have h2 := nI_pos h
  rw [e] at h2
  exact h2 m1_neg
def xPo (po : Nat → Nat) (n t : Nat) : Nat → Nat := fun s => if s = n then t else po s
theorem xPo_n (po : Nat → Nat) (n t : Nat) : xPo po n t n = t := if_pos rfl
theorem xPo_s (po : Nat → Nat) {n t s : Nat} (h : s ≠ n) : xPo po n t s = po s := if_neg h
theorem xNew_15 (σ : zS) (k d : Int32) (t p n j : Nat) : zI (xNew σ k t p d n) 15 j = if j = t then nI n else zI σ 15 j := by
  unfold xNew
  simp only [zI_zsF, zI_zsI]
  by_cases q : j = t
  · simp [q]
  · simp [q]
theorem xNew_9 (σ : zS) (k d : Int32) (t p n j : Nat) : zI (xNew σ k t p d n) 9 j = if j = n then k else zI σ 9 j := by
  unfold xNew
  simp only [zI_zsF, zI_zsI]
  by_cases q : j = n
  · simp [q]
  · simp [q]
/-- a state more -/
theorem xHs.add0 {σ σ' : zS} {n : Nat} {po : Nat → Nat} (h : xHs σ n po) (hn : n < 400) {k : Int32} (hk : ∀ s, s < n → zI σ 9 s ≠ k) {t e : Nat} (htl : t < 1024) (he1 : e < 1024) (he2 : t = (xHash k + e) % 1024) (he3 : zI σ 15 t = -1) (he4 : ∀ j, j < e → zI σ 15 ((xHash k + j) % 1024) ≠ -1) (f15 : ∀ j, zI σ' 15 j = if j = t then nI n else zI σ 15 j) (f9 : ∀ j, zI σ' 9 j = if j = n then k else zI σ 9 j) : xHs σ' (n + 1) (xPo po n t) := by
  have po_ne : ∀ s, s < n → po s ≠ t := fun s hs q => by
    have := (h.2.1 s hs).2
    rw [q, he3] at this
    exact nI_nm1 (by omega) this.symm
  refine ⟨fun j hj => ?_, fun s hs => ?_, fun s hs => ?_, fun s s' hs hs' => ?_⟩
  · rw [f15]
    by_cases q : j = t
    · rw [if_pos q]
      exact Or.inr ⟨n, by omega, rfl, (xPo_n po n t).trans q.symm⟩
    · rw [if_neg q]
      rcases h.1 j hj with z | ⟨s, z1, z2, z3⟩
      · exact Or.inl z
      · exact Or.inr ⟨s, by omega, z2, (xPo_s po (by omega)).trans z3⟩
  · by_cases q : s = n
    · subst q
      rw [xPo_n, f15, if_pos rfl]
      exact ⟨htl, rfl⟩
    · rw [xPo_s po q, f15, if_neg (po_ne s (by omega))]
      exact h.2.1 s (by omega)
  · rw [f9]
    by_cases q : s = n
    · subst q
      rw [if_pos rfl, xPo_n]
      refine ⟨e, he1, he2, fun j hj => ?_⟩
      rw [f15]
      by_cases q2 : (xHash k + j) % 1024 = t
      · rw [if_pos q2]
        exact nI_nm1 (by omega)
      · rw [if_neg q2]
        exact he4 j hj
    · rw [if_neg q, xPo_s po q]
      obtain ⟨d', z1, z2, z3⟩ := h.2.2.1 s (by omega)
      refine ⟨d', z1, z2, fun j hj => ?_⟩
      rw [f15]
      by_cases q2 : (xHash (zI σ 9 s) + j) % 1024 = t
      · rw [if_pos q2]
        exact nI_nm1 (by omega)
      · rw [if_neg q2]
        exact z3 j hj
  · rw [f9, f9]
    by_cases q : s = n
    · subst q
      rw [if_pos rfl]
      by_cases q2 : s' = s
      · exact fun _ => q2.symm
      · rw [if_neg q2]
        exact fun z => absurd z.symm (hk s' (by omega))
    · rw [if_neg q]
      by_cases q2 : s' = n
      · subst q2
        rw [if_pos rfl]
        exact fun z => absurd z (hk s (by omega))
      · rw [if_neg q2]
        exact h.2.2.2 s s' (by omega) (by omega)
theorem xHs.add {σ : zS} {n : Nat} {po : Nat → Nat} (h : xHs σ n po) (hn : n < 400) {k d : Int32} {p : Nat} (hk : ∀ s, s < n → zI σ 9 s ≠ k) {t : Nat} (ht : xProbe σ k 1024 (xHash k) = t) : xHs (xNew σ k t p d n) (n + 1) (xPo po n t) := by
  obtain ⟨e, he1, he2, he3, he4⟩ := xProbe_new h (Nat.le_of_lt hn) hk
  rw [ht] at he2
  rw [← he2] at he3
  exact xHs.add0 h hn hk (by rw [he2]; exact Nat.mod_lt _ (by decide)) he1 he2 he3 he4 (xNew_15 σ k d t p n) (xNew_9 σ k d t p n)
