/-! the class's exploring as one list of steps -/
def xRun (s : Nat) : List (Int32 × Int32) → zS → zS
  | [], σ => σ
  | p :: r, σ => xRun s r (xStp σ s p.1 p.2)
theorem xRun_app {s : Nat} : ∀ (l r : List (Int32 × Int32)) (σ : zS), xRun s (l ++ r) σ = xRun s r (xRun s l σ)
  | [], _, _ => rfl
  | p :: l, r, σ => xRun_app l r (xStp σ s p.1 p.2)
def lIn (σ0 : zS) (mid : Nat → Nat → Nat) (a : Nat) (k aft : Int32) (q : Nat) : Nat → Nat → List (Int32 × Int32)
  | 0, _ => []
  | d + 1, m => (if xPair σ0 a (mid q m) k aft = true then [(xAG σ0 (mid q m) (xAD σ0 (mid q m) aft), xPm σ0 a ||| xPb σ0 (mid q m))] else []) ++ lIn σ0 mid a k aft q d (m + 1)
theorem xIn_run {σ0 : zS} {mid : Nat → Nat → Nat} {a s q : Nat} {k aft : Int32} : ∀ (d m : Nat) (σ : zS), xIn σ0 mid a k aft s q d m σ = xRun s (lIn σ0 mid a k aft q d m) σ
  | 0, _, _ => rfl
  | d + 1, m, σ => by
    rw [xIn, lIn, xRun_app, xIn_run d (m + 1)]
    by_cases c : xPair σ0 a (mid q m) k aft = true
    · rw [if_pos c, if_pos c]; rfl
    · rw [if_neg c, if_neg c]; rfl
def lOut (σ0 : zS) (mc : Nat → Nat) (mid : Nat → Nat → Nat) (a : Nat) (k aft : Int32) : Nat → Nat → List (Int32 × Int32)
  | 0, _ => []
  | d + 1, q => lIn σ0 mid a k aft q (mc q) 0 ++ lOut σ0 mc mid a k aft d (q + 1)
theorem xOut_run {σ0 : zS} {mc : Nat → Nat} {mid : Nat → Nat → Nat} {a s : Nat} {k aft : Int32} : ∀ (d q : Nat) (σ : zS), xOut σ0 mc mid a k aft s d q σ = xRun s (lOut σ0 mc mid a k aft d q) σ
  | 0, _, _ => rfl
  | d + 1, q, σ => by rw [xOut, lOut, xRun_app, xOut_run d (q + 1), xIn_run]
def lBy (σ0 : zS) (P : Nat) (mc : Nat → Nat) (mid : Nat → Nat → Nat) (pa a : Nat) (k : Int32) : List (Int32 × Int32) :=
  if zF σ0 1 4 a = 0 then [(xAG σ0 a (xAD σ0 a k), xPm σ0 a)] else lOut σ0 mc mid a k (xAG σ0 a (xAD σ0 a k)) (P - (pa + 1)) (pa + 1)
theorem xBy_run {σ0 : zS} {P : Nat} {mc : Nat → Nat} {mid : Nat → Nat → Nat} {pa a s : Nat} {k : Int32} (σ : zS) : xBy σ0 P mc mid pa a k s σ = xRun s (lBy σ0 P mc mid pa a k) σ := by
  unfold xBy lBy
  by_cases c : zF σ0 1 4 a = 0
  · rw [if_pos c, if_pos c]; rfl
  · rw [if_neg c, if_neg c, xOut_run]
/-- the keys behind a list of steps -/
def kAll (ks : List Int32) (l : List (Int32 × Int32)) : List Int32 := l.foldl (fun q p => kAdd q p.1) ks
theorem kAll_le : ∀ (l : List (Int32 × Int32)) (ks : List Int32), ks.length ≤ (kAll ks l).length
  | [], _ => Nat.le_refl _
  | p :: l, ks => Nat.le_trans (kAdd_le ks p.1).1 (kAll_le l (kAdd ks p.1))
theorem xRun_keys {s : Nat} : ∀ (l : List (Int32 × Int32)) {σ : zS} {pk n T : Nat} {po : Nat → Nat}, xI σ pk n T po → T + l.length ≤ 512000 → (kAll (xKeys σ n) l).length ≤ 400 →
    ∃ pk' T' po', xI (xRun s l σ) pk' (kAll (xKeys σ n) l).length T' po' ∧ T' ≤ T + l.length ∧ xKeys (xRun s l σ) (kAll (xKeys σ n) l).length = kAll (xKeys σ n) l
  | [], σ, pk, n, T, po, h, _, _ => by
    refine ⟨pk, T, po, ?_, Nat.le_refl _, ?_⟩
    · show xI σ pk (xKeys σ n).length T po
      rw [xKeys_len]; exact h
    · show xKeys σ (xKeys σ n).length = xKeys σ n
      rw [xKeys_len]
  | p :: l, σ, pk, n, T, po, h, hT, hl => by
    have hl1 : (kAdd (xKeys σ n) p.1).length ≤ (kAll (kAdd (xKeys σ n) p.1) l).length := kAll_le l _
    have hl2 : (kAll (kAdd (xKeys σ n) p.1) l).length ≤ 400 := hl
    rw [List.length_cons] at hT
    have hf : n < 400 ∨ p.1 ∈ xKeys σ n := by
      by_cases q : p.1 ∈ xKeys σ n
      · exact Or.inr q
      · refine Or.inl ?_
        have e : (kAdd (xKeys σ n) p.1).length = n + 1 := by
          unfold kAdd
          rw [if_neg q, List.length_append, xKeys_len]; rfl
        omega
    obtain ⟨pk1, T1, po1, i1, i2, i3, i4, i5⟩ := xI_keys (s := s) (mov := p.2) h (by omega) hf
    have e1 := xStp_keys (s := s) (mov := p.2) h hf
    obtain ⟨pk2, T2, po2, j1, j2, j3⟩ := xRun_keys l i1 (by omega) (by rw [e1]; exact hl2)
    rw [e1] at j1 j3
    exact ⟨pk2, T2, po2, j1, by rw [List.length_cons]; omega, j3⟩
