/-! all steps of a state, and what holds behind them; too many states -/
theorem xMk_flag {σ : zS} {s : Nat} {k : Int32} : zF (xMk σ s k) 3 10 8 = zF σ 3 10 8 := by
  unfold xMk
  by_cases c : zI σ 15 (xSlot σ k) < 0
  · rw [if_pos c]; exact xNew_F ..
  · rw [if_neg c]
theorem xStp_flag {σ : zS} {s : Nat} {k mov : Int32} (h : zF σ 3 10 8 = 1) : zF (xStp σ s k mov) 3 10 8 = 1 := by
  unfold xStp
  by_cases c : zI σ 15 (xSlot σ k) < 0 ∧ ¬ xS σ < 400
  · rw [if_pos c, zF_zsF, if_pos ⟨rfl, rfl, rfl⟩]
  · rw [if_neg c]
    by_cases c2 : (xT σ).toNatClampNeg < xLen σ
    · rw [if_pos c2, xAdd_F, xMk_flag]; exact h
    · rw [if_neg c2, xAdd_F]
      show zF (xMk σ s k) 3 10 8 = 1
      rw [xMk_flag]; exact h
theorem xRun_flag {s : Nat} : ∀ (l : List (Int32 × Int32)) {σ : zS}, zF σ 3 10 8 = 1 → zF (xRun s l σ) 3 10 8 = 1
  | [], _, h => h
  | p :: l, σ, h => xRun_flag l (xStp_flag (k := p.1) (mov := p.2) h)
theorem xRun_E {P s : Nat} (hP : P ≤ 3) : ∀ (l : List (Int32 × Int32)) {σ : zS} {pk n T : Nat} {po : Nat → Nat}, xI σ pk n T po → xEW P σ pk n T s → T + l.length ≤ 512000 → (∀ q, q ∈ l → xMv P q.2) → (kAll (xKeys σ n) l).length ≤ 400 →
    ∃ pk' po', xI (xRun s l σ) pk' (kAll (xKeys σ n) l).length (T + l.length) po' ∧ xEW P (xRun s l σ) pk' (kAll (xKeys σ n) l).length (T + l.length) s ∧ zF (xRun s l σ) 3 10 8 = zF σ 3 10 8 ∧ xKeys (xRun s l σ) (kAll (xKeys σ n) l).length = kAll (xKeys σ n) l
  | [], σ, pk, n, T, po, h, hw, _, _, _ => by
    refine ⟨pk, po, ?_, ?_, rfl, ?_⟩
    · show xI σ pk (xKeys σ n).length T po
      rw [xKeys_len]; exact h
    · show xEW P σ pk (xKeys σ n).length T s
      rw [xKeys_len]; exact hw
    · show xKeys σ (xKeys σ n).length = xKeys σ n
      rw [xKeys_len]
  | p :: l, σ, pk, n, T, po, h, hw, hT, hm, hl => by
    have hl1 : (kAdd (xKeys σ n) p.1).length ≤ (kAll (kAdd (xKeys σ n) p.1) l).length := kAll_le l _
    have hl2 : (kAll (kAdd (xKeys σ n) p.1) l).length ≤ 400 := hl
    have eT : T + (p :: l).length = T + 1 + l.length := by rw [List.length_cons]; omega
    rw [eT] at hT ⊢
    have hf : n < 400 ∨ p.1 ∈ xKeys σ n := by
      by_cases q : p.1 ∈ xKeys σ n
      · exact Or.inr q
      · refine Or.inl ?_
        have e : (kAdd (xKeys σ n) p.1).length = n + 1 := by
          unfold kAdd
          rw [if_neg q, List.length_append, xKeys_len]; rfl
        omega
    obtain ⟨pk1, po1, i1, i2, i3⟩ := xEW_stp (mov := p.2) h hw (by omega) hf (hm p List.mem_cons_self) hP
    have e1 := xStp_keys (s := s) (mov := p.2) h hf
    obtain ⟨pk2, po2, j1, j2, j3, j4⟩ := xRun_E hP l i1 i2 (by omega) (fun q hq => hm q (List.mem_cons_of_mem _ hq)) (by rw [e1]; exact hl2)
    rw [e1] at j1 j2 j4
    exact ⟨pk2, po2, j1, j2, j3.trans i3, j4⟩
theorem xRun_over {s : Nat} : ∀ (l : List (Int32 × Int32)) {σ : zS} {pk n T : Nat} {po : Nat → Nat}, xI σ pk n T po → T + l.length ≤ 512000 → 400 < (kAll (xKeys σ n) l).length → zF (xRun s l σ) 3 10 8 = 1
  | [], σ, pk, n, T, po, h, _, hl => by
    have hl : 400 < (xKeys σ n).length := hl
    rw [xKeys_len] at hl
    have := h.2.2.2.2.1
    omega
  | p :: l, σ, pk, n, T, po, h, hT, hl => by
    rw [List.length_cons] at hT
    by_cases hf : n < 400 ∨ p.1 ∈ xKeys σ n
    · obtain ⟨pk1, po1, g, n1, en, i1, -⟩ := xStp_eff (s := s) (mov := p.2) h (by omega) hf
      have e1 := xStp_keys (s := s) (mov := p.2) h hf
      rw [en] at i1
      exact xRun_over l i1 (by omega) (by rw [e1]; exact hl)
    · have h4 := h.2.2.2.2.1
      have e := xStp_full (s := s) (mov := p.2) h (show n = 400 by omega) (fun q => hf (Or.inr q))
      show zF (xRun s l (xStp σ s p.1 p.2)) 3 10 8 = 1
      rw [e]
      exact xRun_flag l (by rw [zF_zsF, if_pos ⟨rfl, rfl, rfl⟩])
theorem xI_set {σ : zS} {pk n T : Nat} {po : Nat → Nat} (h : xI σ pk n T po) {a : Nat} (ha : a = 13 ∨ a = 14) (i : Nat) (x : Int32) : xI (zsI σ a i x) pk n T po := by
  have e : ∀ b, b ≠ a → zI (zsI σ a i x) b = zI σ b := fun b hb => funext fun j => by rw [zI_zsI, if_neg (fun q => hb q.1)]
  obtain ⟨h1, h2, h3, h4⟩ := h
  exact ⟨h1, h2, h3.congr (e 9 (by omega)) (e 15 (by omega)), h4⟩
theorem xKeys_set {σ : zS} {n a i : Nat} {x : Int32} (ha : a = 13 ∨ a = 14) : xKeys (zsI σ a i x) n = xKeys σ n := xKeys_cg (fun j _ => by rw [zI_zsI, if_neg (by omega)])
theorem xEB_go {P : Nat} {σ : zS} {pk n T s : Nat} {po : Nat → Nat} (h : xI σ pk n T po) (hb : xEB P σ pk n T s) (hs : s < n) : xI (zsI (zsI σ 13 s 0) 14 s (xT σ)) pk n T po ∧ xEW P (zsI (zsI σ 13 s 0) 14 s (xT σ)) pk n T s := by
  refine ⟨xI_set (xI_set h (Or.inl rfl) s 0) (Or.inr rfl) s (xT σ), ?_⟩
  obtain ⟨fs, dep, par, pst, E, ⟨g1, g2, g3⟩, ⟨d1, d2, d3, d4⟩, f1, f0, hT, hsn, hd, h14⟩ := hb
  have hp := h.2.1
  have o : ∀ a, a ≠ 13 → a ≠ 14 → zI (zsI (zsI σ 13 s 0) 14 s (xT σ)) a = zI σ a := fun a h1 h2 => funext fun j => by rw [zI_zsI, if_neg (fun q => h2 q.1), zI_zsI, if_neg (fun q => h1 q.1)]
  have opk := o pk (fun q => xPk_ne hp (show 13 < 16 by decide) q.symm) (fun q => xPk_ne hp (show 14 < 16 by decide) q.symm)
  refine ⟨fs, dep, par, pst, tU E s [], ⟨fun t ht => ?_, fun t ht j g hg => ?_, fun t ht => ?_⟩, ⟨fun t ht => ?_, d2, fun t h0 ht => ?_, d4⟩, fun t ht => ?_, f0, ?_, hs, hd hs⟩
  · by_cases e : t = s
    · rw [e, zI_zsI, if_pos ⟨rfl, rfl⟩, h.2.2.2.2.2.1, hT]
    · rw [zI_zsI, if_neg (fun q => e q.2), zI_zsI, if_neg (fun q => absurd q.1 (by decide))]
      exact g1 t (by omega)
  · by_cases e : t = s
    · rw [e, tU_s] at hg
      cases hg
    · rw [tU_n e] at hg
      rw [opk]
      exact g2 t (by omega) j g hg
  · by_cases e : t = s
    · rw [e, zI_zsI, if_neg (fun q => absurd q.1 (by decide)), zI_zsI, if_pos ⟨rfl, rfl⟩, tU_s]
      exact ⟨fun _ => rfl, fun _ => rfl⟩
    · rw [zI_zsI, if_neg (fun q => absurd q.1 (by decide)), zI_zsI, if_neg (fun q => e q.2), tU_n e]
      exact g3 t (by omega)
  · rw [o 10 (by decide) (by decide), o 11 (by decide) (by decide)]
    exact d1 t ht
  · obtain ⟨a1, a2, a3, a4, a5⟩ := d3 t h0 ht
    rw [o 12 (by decide) (by decide), tU_n (show par t ≠ s by omega)]
    exact ⟨by omega, a2, a3, a4, a5⟩
  · rw [tU_n (by omega)]
    exact f1 t ht
  · rw [tU_s]
    exact hT
theorem xEW_end {P : Nat} {σ : zS} {pk n T s : Nat} {po : Nat → Nat} (h : xI σ pk n T po) (hw : xEW P σ pk n T s) : xI (zsI σ 14 (s + 1) (xT σ)) pk n T po ∧ xEB P (zsI σ 14 (s + 1) (xT σ)) pk n T (s + 1) := by
  refine ⟨xI_set h (Or.inr rfl) (s + 1) (xT σ), ?_⟩
  obtain ⟨fs, dep, par, pst, E, ⟨g1, g2, g3⟩, ⟨d1, d2, d3, d4⟩, f1, f0, hT, hsn, hd⟩ := hw
  have hp := h.2.1
  have o : ∀ a, a ≠ 14 → zI (zsI σ 14 (s + 1) (xT σ)) a = zI σ a := fun a h2 => funext fun j => by rw [zI_zsI, if_neg (fun q => h2 q.1)]
  have opk := o pk (fun q => xPk_ne hp (show 14 < 16 by decide) q.symm)
  refine ⟨tU fs (s + 1) T, dep, par, pst, E, ⟨fun t ht => ?_, fun t ht j g hg => ?_, fun t ht => ?_⟩, ⟨fun t ht => ?_, d2, fun t h0 ht => ?_, d4⟩, fun t ht => ?_, ?_, ?_, hsn, fun hs1 t ht => ?_, fun _ => ?_⟩
  · rw [zI_zsI, if_neg (by omega), tU_n (by omega)]
    exact g1 t ht
  · rw [opk, tU_n (by omega)]
    exact g2 t ht j g hg
  · rw [o 13 (by decide)]
    exact g3 t ht
  · rw [o 10 (by decide), o 11 (by decide)]
    exact d1 t ht
  · rw [o 12 (by decide)]
    exact d3 t h0 ht
  · by_cases e : t = s
    · rw [e, tU_s, tU_n (by omega)]
      exact hT
    · rw [tU_n (by omega), tU_n (by omega)]
      exact f1 t (by omega)
  · rw [tU_n (by omega)]; exact f0
  · rw [tU_s]
  · have h1 := hd t ht
    have h2 := d4 s (s + 1) (by omega) hs1
    omega
  · rw [zI_zsI, if_pos ⟨rfl, rfl⟩]
    exact h.2.2.2.2.2.1
theorem lIn_ok {σ : zS} {P : Nat} {mc : Nat → Nat} {mid : Nat → Nat → Nat} (h : xPro σ P mc mid) {p m0 q : Nat} {k aft : Int32} (hp : p < P) (hm0 : m0 < mc p) (hq : q < P) : ∀ (d m : Nat), m + d ≤ mc q → (∀ x, x ∈ lIn σ mid (mid p m0) k aft q d m → xMv P x.2) ∧ (lIn σ mid (mid p m0) k aft q d m).length ≤ d
  | 0, _, _ => ⟨fun _ hx => (List.not_mem_nil hx).elim, Nat.le_refl _⟩
  | d + 1, m, hd => by
    obtain ⟨h1, h2⟩ := lIn_ok (k := k) (aft := aft) h hp hm0 hq d (m + 1) (by omega)
    unfold lIn
    by_cases c : xPair σ (mid p m0) (mid q m) k aft = true
    · rw [if_pos c]
      refine ⟨fun x hx => ?_, by rw [List.length_append]; show 1 + _ ≤ _; omega⟩
      rcases List.mem_append.mp hx with z | z
      · rw [List.mem_singleton.mp z]
        exact xPb_mv h hp hm0 hq (by omega)
      · exact h1 x z
    · rw [if_neg c]
      exact ⟨h1, by show (lIn σ mid (mid p m0) k aft q d (m + 1)).length ≤ d + 1; omega⟩
theorem lOut_ok {σ : zS} {P : Nat} {mc : Nat → Nat} {mid : Nat → Nat → Nat} (h : xPro σ P mc mid) {p m0 : Nat} {k aft : Int32} (hp : p < P) (hm0 : m0 < mc p) : ∀ (d q : Nat), q + d ≤ P → (∀ x, x ∈ lOut σ mc mid (mid p m0) k aft d q → xMv P x.2) ∧ (lOut σ mc mid (mid p m0) k aft d q).length ≤ 6 * d
  | 0, _, _ => ⟨fun _ hx => (List.not_mem_nil hx).elim, Nat.le_refl _⟩
  | d + 1, q, hd => by
    obtain ⟨h1, h2⟩ := lOut_ok (k := k) (aft := aft) h hp hm0 d (q + 1) (by omega)
    obtain ⟨h3, h4⟩ := lIn_ok (k := k) (aft := aft) h hp hm0 (show q < P by omega) (mc q) 0 (by omega)
    have h5 := (h.2.2.1 q (by omega)).2
    unfold lOut
    refine ⟨fun x hx => ?_, by rw [List.length_append]; omega⟩
    rcases List.mem_append.mp hx with z | z
    · exact h3 x z
    · exact h1 x z
theorem lBy_ok {σ : zS} {P : Nat} {mc : Nat → Nat} {mid : Nat → Nat → Nat} (h : xPro σ P mc mid) {p m0 : Nat} {k : Int32} (hp : p < P) (hm0 : m0 < mc p) : (∀ x, x ∈ lBy σ P mc mid p (mid p m0) k → xMv P x.2) ∧ (lBy σ P mc mid p (mid p m0) k).length ≤ 18 := by
  unfold lBy
  by_cases c : zF σ 1 4 (mid p m0) = 0
  · rw [if_pos c]
    refine ⟨fun x hx => ?_, by show 1 ≤ 18; omega⟩
    rw [List.mem_singleton.mp hx]
    exact xPm_mv h hp hm0
  · rw [if_neg c]
    obtain ⟨h1, h2⟩ := lOut_ok (k := k) (aft := xAG σ (mid p m0) (xAD σ (mid p m0) k)) h hp hm0 (P - (p + 1)) (p + 1) (by omega)
    have := h.2.1
    exact ⟨h1, by omega⟩
theorem lMvI_ok {σ : zS} {P : Nat} {mc : Nat → Nat} {mid : Nat → Nat → Nat} (h : xPro σ P mc mid) {p : Nat} {k : Int32} (hp : p < P) : ∀ (d m : Nat), m + d ≤ mc p → (∀ x, x ∈ lMvI σ P mc mid k p d m → xMv P x.2) ∧ (lMvI σ P mc mid k p d m).length ≤ 18 * d
  | 0, _, _ => ⟨fun _ hx => (List.not_mem_nil hx).elim, Nat.le_refl _⟩
  | d + 1, m, hd => by
    obtain ⟨h1, h2⟩ := lMvI_ok (k := k) h hp d (m + 1) (by omega)
    obtain ⟨h3, h4⟩ := lBy_ok (k := k) h hp (show m < mc p by omega)
    unfold lMvI
    by_cases c : xOpen σ (mid p m) k = true
    · rw [if_pos c]
      refine ⟨fun x hx => ?_, by rw [List.length_append]; omega⟩
      rcases List.mem_append.mp hx with z | z
      · exact h3 x z
      · exact h1 x z
    · rw [if_neg c]
      exact ⟨h1, by show (lMvI σ P mc mid k p d (m + 1)).length ≤ 18 * (d + 1); omega⟩
theorem lMvO_ok {σ : zS} {P : Nat} {mc : Nat → Nat} {mid : Nat → Nat → Nat} (h : xPro σ P mc mid) {k : Int32} : ∀ (d p : Nat), p + d ≤ P → (∀ x, x ∈ lMvO σ P mc mid k d p → xMv P x.2) ∧ (lMvO σ P mc mid k d p).length ≤ 108 * d
  | 0, _, _ => ⟨fun _ hx => (List.not_mem_nil hx).elim, Nat.le_refl _⟩
  | d + 1, p, hd => by
    obtain ⟨h1, h2⟩ := lMvO_ok (k := k) h d (p + 1) (by omega)
    obtain ⟨h3, h4⟩ := lMvI_ok (k := k) h (show p < P by omega) (mc p) 0 (by omega)
    have h5 := (h.2.2.1 p (by omega)).2
    unfold lMvO
    refine ⟨fun x hx => ?_, by rw [List.length_append]; omega⟩
    rcases List.mem_append.mp hx with z | z
    · exact h3 x z
    · exact h1 x z
theorem lOf_ok {σ : zS} {P : Nat} {mc : Nat → Nat} {mid : Nat → Nat → Nat} (h : xPro σ P mc mid) {k : Int32} : (∀ x, x ∈ lOf σ P mc mid k → xMv P x.2) ∧ (lOf σ P mc mid k).length ≤ 324 := by
  obtain ⟨h1, h2⟩ := lMvO_ok (k := k) h P 0 (by omega)
  have := h.2.1
  exact ⟨h1, Nat.le_trans h2 (by omega)⟩
