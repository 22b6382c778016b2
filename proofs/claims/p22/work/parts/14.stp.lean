/-! one step added, as a function of the heap -/
def xPkOf (σ : zS) : Nat := (zG σ 3 7 8).getD 0
def xLen (σ : zS) : Nat := zL σ (xPkOf σ)
def xSlot (σ : zS) (k : Int32) : Nat := xProbe σ k 1024 (xHash k)
/-- no such state yet -/
def xIsNew (σ : zS) (k : Int32) : Prop := zI σ 15 (xSlot σ k) < 0
/-- the number of the state with a key -/
def xGo (σ : zS) (k : Int32) : Nat := if zI σ 15 (xSlot σ k) < 0 then (xS σ).toNatClampNeg else (zI σ 15 (xSlot σ k)).toNatClampNeg
/-- the heap with the state made, if there was none -/
def xMk (σ : zS) (s : Nat) (k : Int32) : zS := if zI σ 15 (xSlot σ k) < 0 then xNew σ k (xSlot σ k) s (zI σ 10 s + 1) (xS σ).toNatClampNeg else σ
def xStp (σ : zS) (s : Nat) (k mov : Int32) : zS :=
  if zI σ 15 (xSlot σ k) < 0 ∧ ¬ xS σ < 400 then zsF σ 3 10 8 1
  else if (xT σ).toNatClampNeg < xLen σ then xAdd (xMk σ s k) (xPkOf σ) (xT σ).toNatClampNeg (xGo σ k) mov s
  else xAdd (xGrow (xMk σ s k) (xPkOf σ)) (zn σ) (xT σ).toNatClampNeg (xGo σ k) mov s
/-- what holds while it explores: n states, T steps, the row of steps at pk, each state's slot by po -/
def xI (σ : zS) (pk n T : Nat) (po : Nat → Nat) : Prop :=
  xSh σ ∧ xPk σ pk ∧ xHs σ n po ∧ xS σ = nI n ∧ n ≤ 400 ∧ xT σ = nI T ∧ T ≤ zL σ pk ∧ 1 ≤ zL σ pk ∧ (zL σ pk ≤ 2048 ∨ zL σ pk ≤ 2 * T) ∧ zWF σ
theorem xPkOf_eq {σ : zS} {pk : Nat} (h : xPk σ pk) : xPkOf σ = pk := by
  unfold xPkOf
  rw [h.1]
  rfl
theorem nI_lt_lit {n : Nat} {c : Nat} (hn : n < 2 ^ 31) (hc : c < 2 ^ 31) : nI n < nI c ↔ n < c := nI_ltI hn hc
theorem xMk_zn (σ : zS) (s : Nat) (k : Int32) : zn (xMk σ s k) = zn σ := by
  unfold xMk
  split <;> rfl
theorem xGrow_zn (σ : zS) (pk : Nat) : zn (xGrow σ pk) = zn σ + 1 := rfl
theorem xAdd_zn (σ : zS) (pk T g : Nat) (mov : Int32) (s : Nat) : zn (xAdd σ pk T g mov s) = zn σ := rfl
/-- the three ways -/
theorem xStp_way {σ : zS} {pk n T : Nat} {po : Nat → Nat} (h : xI σ pk n T po) (hT : T < 2 ^ 31) (s : Nat) (k mov : Int32) :
    (n = 400 ∧ zI σ 15 (xSlot σ k) < 0 ∧ xStp σ s k mov = zsF σ 3 10 8 1) ∨
    (∃ g, g < 400 ∧ xNum σ k s n g (xMk σ s k) ∧ xGo σ k = g ∧ ((T < zL σ pk ∧ xStp σ s k mov = xAdd (xMk σ s k) pk T g mov s) ∨ (T = zL σ pk ∧ xStp σ s k mov = xAdd (xGrow (xMk σ s k) pk) (zn (xMk σ s k)) T g mov s))) := by
  obtain ⟨h1, h2, h3, h4, h5, h6, h7, h8, h9, h10⟩ := h
  have e1 : (xS σ).toNatClampNeg = n := by rw [h4]; exact nI_clamp (by omega)
  have e2 : (xT σ).toNatClampNeg = T := by rw [h6]; exact nI_clamp hT
  have e3 : xPkOf σ = pk := xPkOf_eq h2
  have e4 : xS σ < 400 ↔ n < 400 := by rw [h4]; exact nI_lt_lit (by omega) (by decide)
  by_cases hw : zI σ 15 (xSlot σ k) < 0
  · by_cases hn : n < 400
    · refine Or.inr ⟨n, hn, ⟨_, rfl, Or.inr ⟨hw, hn, rfl, ?_⟩⟩, ?_, ?_⟩
      · unfold xMk
        rw [if_pos hw, e1]
        rfl
      · unfold xGo
        rw [if_pos hw, e1]
      · have hc : ¬ (zI σ 15 (xSlot σ k) < 0 ∧ ¬ xS σ < 400) := fun q => q.2 (e4.mpr hn)
        unfold xStp xLen
        rw [if_neg hc, e2, e3, show xGo σ k = n by unfold xGo; rw [if_pos hw, e1], xMk_zn]
        by_cases hl : T < zL σ pk
        · exact Or.inl ⟨hl, if_pos hl⟩
        · exact Or.inr ⟨by omega, if_neg hl⟩
    · refine Or.inl ⟨by omega, hw, ?_⟩
      unfold xStp
      rw [if_pos ⟨hw, fun q => hn (e4.mp q)⟩]
  · have hsl : zI σ 15 (xSlot σ k) < 0 ∨ ∃ s, s < 400 ∧ zI σ 15 (xSlot σ k) = nI s := h3.sl h5 _ (xProbe_lt σ k 1024 _ (xHash_lt k))
    obtain ⟨g, hg, hg2⟩ := hsl.resolve_left hw
    refine Or.inr ⟨g, hg, ⟨_, rfl, Or.inl ⟨hw, hg2, ?_⟩⟩, ?_, ?_⟩
    · unfold xMk
      rw [if_neg hw]
    · unfold xGo
      rw [if_neg hw, hg2, nI_clamp (by omega)]
    · have hc : ¬ (zI σ 15 (xSlot σ k) < 0 ∧ ¬ xS σ < 400) := fun q => hw q.1
      unfold xStp xLen
      rw [if_neg hc, e2, e3, show xGo σ k = g by unfold xGo; rw [if_neg hw, hg2, nI_clamp (by omega)], xMk_zn]
      by_cases hl : T < zL σ pk
      · exact Or.inl ⟨hl, if_pos hl⟩
      · exact Or.inr ⟨by omega, if_neg hl⟩
theorem xLen_add (σ : zS) (pk T g : Nat) (mov : Int32) (s : Nat) : xLen (xAdd σ pk T g mov s) = xLen σ := rfl
theorem xNum.lenO {σ σ1 : zS} {k : Int32} {s n g : Nat} (h : xNum σ k s n g σ1) : xLen σ1 = xLen σ := by
  obtain ⟨t, -, ⟨-, -, rfl⟩ | ⟨-, -, -, rfl⟩⟩ := h <;> rfl
theorem xNum.zn {σ σ1 : zS} {k : Int32} {s n g : Nat} (h : xNum σ k s n g σ1) : zn σ1 = zn σ := by
  obtain ⟨t, -, ⟨-, -, rfl⟩ | ⟨-, -, -, rfl⟩⟩ := h <;> rfl
theorem xNum.wf {σ σ1 : zS} {k : Int32} {s n g : Nat} (h : xNum σ k s n g σ1) (hw : zWF σ) : zWF σ1 := by
  obtain ⟨t, -, ⟨-, -, rfl⟩ | ⟨-, -, -, rfl⟩⟩ := h <;> exact hw
theorem xGrow_lenO {σ : zS} (hw : zWF σ) (h : xSh σ) (pk : Nat) : xLen (xGrow σ pk) = 2 * zL σ pk := by
  unfold xLen
  rw [xPkOf_eq (xGrow_pk hw h pk)]
  exact xGrow_len σ pk
theorem zWF_grow {σ : zS} (hw : zWF σ) (pk : Nat) : zWF (xGrow σ pk) := zWF_A1 hw 0 (2 * zL σ pk)
/-- the contract of a step -/
theorem c_X3_addStep {l : Launch} {σ : zS} {pk n T s : Nat} {po : Nat → Nat} {k mov : Int32} (h : xI σ pk n T po) (hT : T ≤ 512000) (hs : s < 400) : zAM l zmX3_addStep 2 62 (zn (xStp σ s k mov) - zn σ) (2 * (xLen (xStp σ s k mov) - xLen σ)) [.ref 8, .int (nI s), .int k, .int mov] σ (fun v σ' => v = none ∧ σ' = xStp σ s k mov) := by
  have hsl := h.2.2.1.sl h.2.2.2.2.1
  obtain ⟨h1, h2, h3, h4, h5, h6, h7, h8, h9, h10⟩ := id h
  rcases xStp_way h (by omega) s k mov with ⟨q1, q2, q3⟩ | ⟨g, q1, q2, q3, ⟨q4, q5⟩ | ⟨q4, q5⟩⟩
  · rw [q3, show zn (zsF σ 3 10 8 1) - zn σ = 0 from Nat.sub_self _, show 2 * (xLen (zsF σ 3 10 8 1) - xLen σ) = 0 by rw [show xLen (zsF σ 3 10 8 1) = xLen σ from rfl]; omega]
    exact c_X3_addStep_full h1 hsl (by rw [h4, q1]) hs rfl q2
  · rw [q5, xAdd_zn, q2.zn, Nat.sub_self, xLen_add, q2.lenO, Nat.sub_self]
    exact c_X3_addStep_in h1 hsl h2 h4 h5 hs h6 q2 q1 q4 (by omega)
  · rw [q5, xAdd_zn, xGrow_zn, q2.zn, xLen_add, xGrow_lenO (q2.wf h10) (q2.sh h1), q2.len pk, show zn σ + 1 - zn σ = 1 by omega, show xLen σ = zL σ pk by unfold xLen; rw [xPkOf_eq h2], show 2 * (2 * zL σ pk - zL σ pk) = 2 * zL σ pk by omega]
    have := c_X3_addStep_grow (l := l) h1 hsl h2 h4 h5 hs h6 (mov := mov) q2 q1 q4 h8 (by omega)
    rw [q2.zn] at this
    exact this
