/-! the whole exploring, told by keys -/
theorem xOf_E {σ0 σ : zS} {P pk n T s : Nat} {po mc : Nat → Nat} {mid : Nat → Nat → Nat} {k : Int32} (hpro : xPro σ0 P mc mid) (h : xI σ pk n T po) (hb : xEB P σ pk n T s) (hs : s < n) (hT : T + 324 ≤ 512000) (hl : (kAll (xKeys σ n) (lOf σ0 P mc mid k)).length ≤ 400) :
    ∃ pk' T' po', xI (xOf σ0 P mc mid k s σ) pk' (kAll (xKeys σ n) (lOf σ0 P mc mid k)).length T' po' ∧ xEB P (xOf σ0 P mc mid k s σ) pk' (kAll (xKeys σ n) (lOf σ0 P mc mid k)).length T' (s + 1) ∧ T' ≤ T + 324 ∧ zF (xOf σ0 P mc mid k s σ) 3 10 8 = zF σ 3 10 8 ∧ xKeys (xOf σ0 P mc mid k s σ) (kAll (xKeys σ n) (lOf σ0 P mc mid k)).length = kAll (xKeys σ n) (lOf σ0 P mc mid k) := by
  obtain ⟨o1, o2⟩ := lOf_ok (k := k) hpro
  obtain ⟨h1, h2⟩ := xEB_go h hb hs
  have ek : xKeys (zsI (zsI σ 13 s 0) 14 s (xT σ)) n = xKeys σ n := (xKeys_set (Or.inr rfl)).trans (xKeys_set (Or.inl rfl))
  obtain ⟨pk', po', i1, i2, i3, i4⟩ := xRun_E hpro.2.1 (lOf σ0 P mc mid k) h1 h2 (by omega) o1 (by rw [ek]; exact hl)
  rw [ek] at i1 i2 i4
  obtain ⟨j1, j2⟩ := xEW_end i1 i2
  rw [xOf_run]
  exact ⟨pk', _, po', j1, j2, by omega, i3, (xKeys_set (Or.inr rfl)).trans i4⟩
theorem xOf_over {σ0 σ : zS} {P pk n T s : Nat} {po mc : Nat → Nat} {mid : Nat → Nat → Nat} {k : Int32} (hpro : xPro σ0 P mc mid) (h : xI σ pk n T po) (hT : T + 324 ≤ 512000) (hl : 400 < (kAll (xKeys σ n) (lOf σ0 P mc mid k)).length) : zF (xOf σ0 P mc mid k s σ) 3 10 8 = 1 := by
  obtain ⟨o1, o2⟩ := lOf_ok (k := k) hpro
  have h1 := xI_set (xI_set h (Or.inl rfl) s 0) (Or.inr rfl) s (xT σ)
  have ek : xKeys (zsI (zsI σ 13 s 0) 14 s (xT σ)) n = xKeys σ n := (xKeys_set (Or.inr rfl)).trans (xKeys_set (Or.inl rfl))
  rw [xOf_run]
  exact xRun_over (s := s) (lOf σ0 P mc mid k) h1 (by omega) (by rw [ek]; exact hl)
theorem xFl_flag {σ0 : zS} {P : Nat} {mc : Nat → Nat} {mid : Nat → Nat → Nat} : ∀ (d s : Nat) {σ : zS}, zF σ 3 10 8 = 1 → xFl σ0 P mc mid d s σ = σ
  | 0, _, _, _ => rfl
  | d + 1, s, σ, h => by
    unfold xFl
    rw [if_neg (fun q => absurd (h.symm.trans q.2) (by decide))]
theorem xKeys_at {σ : zS} {n s : Nat} (h : s < n) : (xKeys σ n)[s]? = some (zI σ 9 s) := by
  unfold xKeys
  rw [List.getElem?_map, List.getElem?_range h]
  rfl
theorem xKeys_no {σ : zS} {n s : Nat} (h : n ≤ s) : (xKeys σ n)[s]? = none := List.getElem?_eq_none (by rw [xKeys_len]; exact h)
set_option maxRecDepth 100000 in
theorem xFl_E {σ0 : zS} {P : Nat} {mc : Nat → Nat} {mid : Nat → Nat → Nat} (hpro : xPro σ0 P mc mid) : ∀ (d s : Nat) {σ : zS} {pk n T : Nat} {po : Nat → Nat}, s + d = 400 → xI σ pk n T po → xEB P σ pk n T s → zF σ 3 10 8 = 0 → T + 324 * d ≤ 512000 →
    ((kBf σ0 P mc mid d s (xKeys σ n)).length ≤ 400 → ∃ pk' n' T' po', n' = (kBf σ0 P mc mid d s (xKeys σ n)).length ∧ xI (xFl σ0 P mc mid d s σ) pk' n' T' po' ∧ xEB P (xFl σ0 P mc mid d s σ) pk' n' T' n' ∧ zF (xFl σ0 P mc mid d s σ) 3 10 8 = 0 ∧ xKeys (xFl σ0 P mc mid d s σ) n' = kBf σ0 P mc mid d s (xKeys σ n) ∧ T' ≤ T + 324 * d) ∧
    (400 < (kBf σ0 P mc mid d s (xKeys σ n)).length → zF (xFl σ0 P mc mid d s σ) 3 10 8 = 1)
  | 0, s, σ, pk, n, T, po, hd, h, hb, h0, hT => by
    have hn := h.2.2.2.2.1
    have hsn : s ≤ n := by
      obtain ⟨fs, dep, par, pst, E, -, -, -, -, -, q, -⟩ := hb
      exact q
    have e : s = n := by omega
    subst e
    refine ⟨fun _ => ⟨pk, s, T, po, (xKeys_len σ s).symm, h, hb, h0, rfl, Nat.le_refl _⟩, fun q => ?_⟩
    have q : 400 < (xKeys σ s).length := q
    rw [xKeys_len] at q
    omega
  | d + 1, s, σ, pk, n, T, po, hd, h, hb, h0, hT => by
    have hn := h.2.2.2.2.1
    have hsn : s ≤ n := by
      obtain ⟨fs, dep, par, pst, E, -, -, -, -, -, q, -⟩ := hb
      exact q
    by_cases hs : s < n
    · have hc : nI s < xS σ ∧ zF σ 3 10 8 = 0 := ⟨by rw [h.2.2.2.1]; exact nI_lt hs (by omega), h0⟩
      have e1 : xFl σ0 P mc mid (d + 1) s σ = xFl σ0 P mc mid d (s + 1) (xOf σ0 P mc mid (zI σ 9 s) s σ) := by
        show (if nI s < xS σ ∧ zF σ 3 10 8 = 0 then _ else _) = _
        rw [if_pos hc]
      have e2 : kBf σ0 P mc mid (d + 1) s (xKeys σ n) = kBf σ0 P mc mid d (s + 1) (kAll (xKeys σ n) (lOf σ0 P mc mid (zI σ 9 s))) := by
        show (match (xKeys σ n)[s]? with
          | some k => kBf σ0 P mc mid d (s + 1) (kAll (xKeys σ n) (lOf σ0 P mc mid k))
          | none => xKeys σ n) = _
        rw [xKeys_at hs]
      rw [e1, e2]
      by_cases hl : (kAll (xKeys σ n) (lOf σ0 P mc mid (zI σ 9 s))).length ≤ 400
      · obtain ⟨pk1, T1, po1, i1, i2, i3, i4, i5⟩ := xOf_E hpro h hb hs (by omega) hl
        obtain ⟨j1, j2⟩ := xFl_E hpro d (s + 1) (by omega) i1 i2 (i4.trans h0) (by omega)
        rw [i5] at j1 j2
        refine ⟨fun q => ?_, j2⟩
        obtain ⟨pk2, n2, T2, po2, a1, a2, a3, a4, a5, a6⟩ := j1 q
        exact ⟨pk2, n2, T2, po2, a1, a2, a3, a4, a5, by omega⟩
      · have hf := xOf_over (s := s) hpro h (by omega) (Nat.lt_of_not_le hl)
        have hle := kBf_le (σ0 := σ0) (P := P) (mc := mc) (mid := mid) d (s + 1) (kAll (xKeys σ n) (lOf σ0 P mc mid (zI σ 9 s)))
        refine ⟨fun q => by omega, fun _ => ?_⟩
        rw [xFl_flag d (s + 1) hf]
        exact hf
    · have e : s = n := by omega
      subst e
      have hc : ¬ (nI s < xS σ ∧ zF σ 3 10 8 = 0) := fun q => by
        have := q.1
        rw [h.2.2.2.1] at this
        exact nI_nlt (Nat.le_refl s) (by omega) this
      have e1 : xFl σ0 P mc mid (d + 1) s σ = σ := by
        show (if nI s < xS σ ∧ zF σ 3 10 8 = 0 then _ else _) = _
        rw [if_neg hc]
      have e2 : kBf σ0 P mc mid (d + 1) s (xKeys σ s) = xKeys σ s := by
        show (match (xKeys σ s)[s]? with
          | some k => kBf σ0 P mc mid d (s + 1) (kAll (xKeys σ s) (lOf σ0 P mc mid k))
          | none => xKeys σ s) = _
        rw [xKeys_no (Nat.le_refl s)]
      rw [e1, e2]
      refine ⟨fun _ => ⟨pk, s, T, po, (xKeys_len σ s).symm, h, hb, h0, rfl, by omega⟩, fun q => ?_⟩
      rw [xKeys_len] at q
      omega
theorem xBg_E {P : Nat} {σ : zS} {pk : Nat} {k : Int32} : xEB P (xBg σ k) pk 1 0 0 ∧ zF (xBg σ k) 3 10 8 = 0 ∧ xKeys (xBg σ k) 1 = [k] := by
  refine ⟨⟨fun _ => 0, fun _ => 0, fun _ => 0, fun _ => 0, fun _ => [], ⟨fun t ht => absurd ht (Nat.not_lt_zero t), fun t ht => absurd ht (Nat.not_lt_zero t), fun t ht => absurd ht (Nat.not_lt_zero t)⟩, ⟨fun t ht => ?_, ⟨rfl, rfl⟩, fun t h0 ht => by omega, fun _ _ _ _ => Nat.le_refl _⟩, fun t ht => absurd ht (Nat.not_lt_zero t), rfl, rfl, Nat.zero_le _, fun _ _ _ => Nat.zero_le _, fun q => absurd q (Nat.lt_irrefl 0)⟩, ?_, ?_⟩
  · have e : t = 0 := by omega
    subst e
    refine ⟨?_, ?_, Nat.le_refl _, by decide⟩
    · unfold xBg
      rw [xNew_I, if_neg (by omega), if_neg (by omega), if_neg (by omega), if_pos ⟨rfl, rfl⟩]
      exact nI_0.symm
    · unfold xBg
      rw [xNew_I, if_neg (by omega), if_neg (by omega), if_pos ⟨rfl, rfl⟩]
  · unfold xBg
    rw [xNew_F]
    unfold xClr
    rw [zF_zsW, zF_zsF, if_pos ⟨rfl, rfl, rfl⟩]
  · show [zI (xBg σ k) 9 0] = [k]
    unfold xBg
    rw [xNew_9, if_pos rfl]
