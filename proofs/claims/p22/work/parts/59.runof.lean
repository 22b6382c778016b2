/-! all steps of a state as one list -/
def lMvI (σ0 : zS) (P : Nat) (mc : Nat → Nat) (mid : Nat → Nat → Nat) (k : Int32) (p : Nat) : Nat → Nat → List (Int32 × Int32)
  | 0, _ => []
  | d + 1, m => (if xOpen σ0 (mid p m) k = true then lBy σ0 P mc mid p (mid p m) k else []) ++ lMvI σ0 P mc mid k p d (m + 1)
theorem xMvI_run {σ0 : zS} {P : Nat} {mc : Nat → Nat} {mid : Nat → Nat → Nat} {k : Int32} {s p : Nat} : ∀ (d m : Nat) (σ : zS), xMvI σ0 P mc mid k s p d m σ = xRun s (lMvI σ0 P mc mid k p d m) σ
  | 0, _, _ => rfl
  | d + 1, m, σ => by
    rw [xMvI, lMvI, xRun_app, xMvI_run d (m + 1)]
    by_cases c : xOpen σ0 (mid p m) k = true
    · rw [if_pos c, if_pos c, xBy_run]
    · rw [if_neg c, if_neg c]; rfl
def lMvO (σ0 : zS) (P : Nat) (mc : Nat → Nat) (mid : Nat → Nat → Nat) (k : Int32) : Nat → Nat → List (Int32 × Int32)
  | 0, _ => []
  | d + 1, p => lMvI σ0 P mc mid k p (mc p) 0 ++ lMvO σ0 P mc mid k d (p + 1)
theorem xMvO_run {σ0 : zS} {P : Nat} {mc : Nat → Nat} {mid : Nat → Nat → Nat} {k : Int32} {s : Nat} : ∀ (d p : Nat) (σ : zS), xMvO σ0 P mc mid k s d p σ = xRun s (lMvO σ0 P mc mid k d p) σ
  | 0, _, _ => rfl
  | d + 1, p, σ => by rw [xMvO, lMvO, xRun_app, xMvO_run d (p + 1), xMvI_run]
/-- the steps of the state with the key k: targets' keys and movers -/
def lOf (σ0 : zS) (P : Nat) (mc : Nat → Nat) (mid : Nat → Nat → Nat) (k : Int32) : List (Int32 × Int32) := lMvO σ0 P mc mid k P 0
theorem xOf_run {σ0 σ : zS} {P : Nat} {mc : Nat → Nat} {mid : Nat → Nat → Nat} {k : Int32} {s : Nat} : xOf σ0 P mc mid k s σ = zsI (xRun s (lOf σ0 P mc mid k) (zsI (zsI σ 13 s 0) 14 s (xT σ))) 14 (s + 1) (xT (xRun s (lOf σ0 P mc mid k) (zsI (zsI σ 13 s 0) 14 s (xT σ)))) := by
  unfold xOf
  rw [xMvO_run]
  rfl
/-- the class's numbering, by keys -/
def kBf (σ0 : zS) (P : Nat) (mc : Nat → Nat) (mid : Nat → Nat → Nat) : Nat → Nat → List Int32 → List Int32
  | 0, _, ks => ks
  | d + 1, s, ks => match ks[s]? with
    | some k => kBf σ0 P mc mid d (s + 1) (kAll ks (lOf σ0 P mc mid k))
    | none => ks
theorem kBf_le {σ0 : zS} {P : Nat} {mc : Nat → Nat} {mid : Nat → Nat → Nat} : ∀ (d s : Nat) (ks : List Int32), ks.length ≤ (kBf σ0 P mc mid d s ks).length
  | 0, _, _ => Nat.le_refl _
  | d + 1, s, ks => by
    show ks.length ≤ (match ks[s]? with
      | some k => kBf σ0 P mc mid d (s + 1) (kAll ks (lOf σ0 P mc mid k))
      | none => ks).length
    cases ks[s]? with
    | none => exact Nat.le_refl _
    | some k => exact Nat.le_trans (kAll_le _ _) (kBf_le d (s + 1) _)
