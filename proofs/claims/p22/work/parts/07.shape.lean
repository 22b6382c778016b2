/-! THE SHAPE of the checker's objects: FairChecker 1, Protocol 2 (3 to 7), StateSpace 8 (9 to 15, its row of steps anywhere), Facts 17 (18 to 20), Traps 21 (22 to 29) -/
def zb (p : Bool) : Int32 := if p = true then 1 else 0
def xKs : List (Nat × Nat) := [(1, 5), (2, 2), (3, 100), (4, 100), (5, 103), (6, 100), (7, 100), (8, 3), (9, 100), (10, 100), (11, 100), (12, 100), (13, 100), (14, 100), (15, 100), (17, 0), (18, 100), (19, 100), (20, 100), (21, 4), (22, 101), (23, 101), (24, 101), (25, 100), (26, 100), (27, 100), (28, 100), (29, 100)]
def xLs : List (Nat × Nat) := [(3, 5), (4, 5), (5, 80), (6, 4), (7, 4), (9, 400), (10, 400), (11, 400), (12, 400), (13, 400), (14, 401), (15, 1024), (18, 12), (19, 12), (20, 12), (22, 400), (23, 400), (24, 400), (25, 400), (26, 400), (27, 400), (28, 400), (29, 400)]
def xGs : List (Nat × Nat × Nat × Nat) := [(5, 0, 1, 2), (5, 1, 1, 8), (5, 2, 1, 17), (5, 3, 1, 21), (2, 0, 2, 3), (2, 1, 2, 4), (2, 2, 2, 5), (2, 3, 2, 6), (2, 4, 2, 7), (3, 0, 8, 9), (3, 1, 8, 10), (3, 2, 8, 11), (3, 3, 8, 12), (3, 4, 8, 13), (3, 5, 8, 14), (3, 6, 8, 15), (0, 0, 17, 18), (0, 1, 17, 19), (0, 2, 17, 20), (4, 0, 21, 22), (4, 1, 21, 23), (4, 2, 21, 24), (4, 3, 21, 25), (4, 4, 21, 26), (4, 5, 21, 27), (4, 6, 21, 28), (4, 7, 21, 29)]
def xSh (σ : zS) : Prop := (∀ q ∈ xKs, zK σ q.1 = q.2) ∧ (∀ q ∈ xLs, zL σ q.1 = q.2) ∧ (∀ q ∈ xGs, zG σ q.1 q.2.1 q.2.2.1 = some q.2.2.2)
theorem xk_1 {σ : zS} (h : xSh σ) : zK σ 1 = 5 := h.1 (1, 5) (by decide)
theorem xk_2 {σ : zS} (h : xSh σ) : zK σ 2 = 2 := h.1 (2, 2) (by decide)
theorem xk_3 {σ : zS} (h : xSh σ) : zK σ 3 = 100 := h.1 (3, 100) (by decide)
theorem xk_4 {σ : zS} (h : xSh σ) : zK σ 4 = 100 := h.1 (4, 100) (by decide)
theorem xk_5 {σ : zS} (h : xSh σ) : zK σ 5 = 103 := h.1 (5, 103) (by decide)
theorem xk_6 {σ : zS} (h : xSh σ) : zK σ 6 = 100 := h.1 (6, 100) (by decide)
theorem xk_7 {σ : zS} (h : xSh σ) : zK σ 7 = 100 := h.1 (7, 100) (by decide)
theorem xk_8 {σ : zS} (h : xSh σ) : zK σ 8 = 3 := h.1 (8, 3) (by decide)
theorem xk_9 {σ : zS} (h : xSh σ) : zK σ 9 = 100 := h.1 (9, 100) (by decide)
theorem xk_10 {σ : zS} (h : xSh σ) : zK σ 10 = 100 := h.1 (10, 100) (by decide)
theorem xk_11 {σ : zS} (h : xSh σ) : zK σ 11 = 100 := h.1 (11, 100) (by decide)
theorem xk_12 {σ : zS} (h : xSh σ) : zK σ 12 = 100 := h.1 (12, 100) (by decide)
theorem xk_13 {σ : zS} (h : xSh σ) : zK σ 13 = 100 := h.1 (13, 100) (by decide)
theorem xk_14 {σ : zS} (h : xSh σ) : zK σ 14 = 100 := h.1 (14, 100) (by decide)
theorem xk_15 {σ : zS} (h : xSh σ) : zK σ 15 = 100 := h.1 (15, 100) (by decide)
theorem xk_17 {σ : zS} (h : xSh σ) : zK σ 17 = 0 := h.1 (17, 0) (by decide)
theorem xk_18 {σ : zS} (h : xSh σ) : zK σ 18 = 100 := h.1 (18, 100) (by decide)
theorem xk_19 {σ : zS} (h : xSh σ) : zK σ 19 = 100 := h.1 (19, 100) (by decide)
theorem xk_20 {σ : zS} (h : xSh σ) : zK σ 20 = 100 := h.1 (20, 100) (by decide)
theorem xk_21 {σ : zS} (h : xSh σ) : zK σ 21 = 4 := h.1 (21, 4) (by decide)
theorem xk_22 {σ : zS} (h : xSh σ) : zK σ 22 = 101 := h.1 (22, 101) (by decide)
theorem xk_23 {σ : zS} (h : xSh σ) : zK σ 23 = 101 := h.1 (23, 101) (by decide)
theorem xk_24 {σ : zS} (h : xSh σ) : zK σ 24 = 101 := h.1 (24, 101) (by decide)
theorem xk_25 {σ : zS} (h : xSh σ) : zK σ 25 = 100 := h.1 (25, 100) (by decide)
theorem xk_26 {σ : zS} (h : xSh σ) : zK σ 26 = 100 := h.1 (26, 100) (by decide)
theorem xk_27 {σ : zS} (h : xSh σ) : zK σ 27 = 100 := h.1 (27, 100) (by decide)
theorem xk_28 {σ : zS} (h : xSh σ) : zK σ 28 = 100 := h.1 (28, 100) (by decide)
theorem xk_29 {σ : zS} (h : xSh σ) : zK σ 29 = 100 := h.1 (29, 100) (by decide)
theorem xl_3 {σ : zS} (h : xSh σ) : zL σ 3 = 5 := h.2.1 (3, 5) (by decide)
theorem xl_4 {σ : zS} (h : xSh σ) : zL σ 4 = 5 := h.2.1 (4, 5) (by decide)
theorem xl_5 {σ : zS} (h : xSh σ) : zL σ 5 = 80 := h.2.1 (5, 80) (by decide)
theorem xl_6 {σ : zS} (h : xSh σ) : zL σ 6 = 4 := h.2.1 (6, 4) (by decide)
theorem xl_7 {σ : zS} (h : xSh σ) : zL σ 7 = 4 := h.2.1 (7, 4) (by decide)
theorem xl_9 {σ : zS} (h : xSh σ) : zL σ 9 = 400 := h.2.1 (9, 400) (by decide)
theorem xl_10 {σ : zS} (h : xSh σ) : zL σ 10 = 400 := h.2.1 (10, 400) (by decide)
theorem xl_11 {σ : zS} (h : xSh σ) : zL σ 11 = 400 := h.2.1 (11, 400) (by decide)
theorem xl_12 {σ : zS} (h : xSh σ) : zL σ 12 = 400 := h.2.1 (12, 400) (by decide)
theorem xl_13 {σ : zS} (h : xSh σ) : zL σ 13 = 400 := h.2.1 (13, 400) (by decide)
theorem xl_14 {σ : zS} (h : xSh σ) : zL σ 14 = 401 := h.2.1 (14, 401) (by decide)
theorem xl_15 {σ : zS} (h : xSh σ) : zL σ 15 = 1024 := h.2.1 (15, 1024) (by decide)
theorem xl_18 {σ : zS} (h : xSh σ) : zL σ 18 = 12 := h.2.1 (18, 12) (by decide)
theorem xl_19 {σ : zS} (h : xSh σ) : zL σ 19 = 12 := h.2.1 (19, 12) (by decide)
theorem xl_20 {σ : zS} (h : xSh σ) : zL σ 20 = 12 := h.2.1 (20, 12) (by decide)
theorem xl_22 {σ : zS} (h : xSh σ) : zL σ 22 = 400 := h.2.1 (22, 400) (by decide)
theorem xl_23 {σ : zS} (h : xSh σ) : zL σ 23 = 400 := h.2.1 (23, 400) (by decide)
theorem xl_24 {σ : zS} (h : xSh σ) : zL σ 24 = 400 := h.2.1 (24, 400) (by decide)
theorem xl_25 {σ : zS} (h : xSh σ) : zL σ 25 = 400 := h.2.1 (25, 400) (by decide)
theorem xl_26 {σ : zS} (h : xSh σ) : zL σ 26 = 400 := h.2.1 (26, 400) (by decide)
theorem xl_27 {σ : zS} (h : xSh σ) : zL σ 27 = 400 := h.2.1 (27, 400) (by decide)
theorem xl_28 {σ : zS} (h : xSh σ) : zL σ 28 = 400 := h.2.1 (28, 400) (by decide)
theorem xl_29 {σ : zS} (h : xSh σ) : zL σ 29 = 400 := h.2.1 (29, 400) (by decide)
theorem xg_5_0 {σ : zS} (h : xSh σ) : zG σ 5 0 1 = some 2 := h.2.2 (5, 0, 1, 2) (by decide)
theorem xg_5_1 {σ : zS} (h : xSh σ) : zG σ 5 1 1 = some 8 := h.2.2 (5, 1, 1, 8) (by decide)
theorem xg_5_2 {σ : zS} (h : xSh σ) : zG σ 5 2 1 = some 17 := h.2.2 (5, 2, 1, 17) (by decide)
theorem xg_5_3 {σ : zS} (h : xSh σ) : zG σ 5 3 1 = some 21 := h.2.2 (5, 3, 1, 21) (by decide)
theorem xg_2_0 {σ : zS} (h : xSh σ) : zG σ 2 0 2 = some 3 := h.2.2 (2, 0, 2, 3) (by decide)
theorem xg_2_1 {σ : zS} (h : xSh σ) : zG σ 2 1 2 = some 4 := h.2.2 (2, 1, 2, 4) (by decide)
theorem xg_2_2 {σ : zS} (h : xSh σ) : zG σ 2 2 2 = some 5 := h.2.2 (2, 2, 2, 5) (by decide)
theorem xg_2_3 {σ : zS} (h : xSh σ) : zG σ 2 3 2 = some 6 := h.2.2 (2, 3, 2, 6) (by decide)
theorem xg_2_4 {σ : zS} (h : xSh σ) : zG σ 2 4 2 = some 7 := h.2.2 (2, 4, 2, 7) (by decide)
theorem xg_3_0 {σ : zS} (h : xSh σ) : zG σ 3 0 8 = some 9 := h.2.2 (3, 0, 8, 9) (by decide)
theorem xg_3_1 {σ : zS} (h : xSh σ) : zG σ 3 1 8 = some 10 := h.2.2 (3, 1, 8, 10) (by decide)
theorem xg_3_2 {σ : zS} (h : xSh σ) : zG σ 3 2 8 = some 11 := h.2.2 (3, 2, 8, 11) (by decide)
theorem xg_3_3 {σ : zS} (h : xSh σ) : zG σ 3 3 8 = some 12 := h.2.2 (3, 3, 8, 12) (by decide)
theorem xg_3_4 {σ : zS} (h : xSh σ) : zG σ 3 4 8 = some 13 := h.2.2 (3, 4, 8, 13) (by decide)
theorem xg_3_5 {σ : zS} (h : xSh σ) : zG σ 3 5 8 = some 14 := h.2.2 (3, 5, 8, 14) (by decide)
theorem xg_3_6 {σ : zS} (h : xSh σ) : zG σ 3 6 8 = some 15 := h.2.2 (3, 6, 8, 15) (by decide)
theorem xg_0_0 {σ : zS} (h : xSh σ) : zG σ 0 0 17 = some 18 := h.2.2 (0, 0, 17, 18) (by decide)
theorem xg_0_1 {σ : zS} (h : xSh σ) : zG σ 0 1 17 = some 19 := h.2.2 (0, 1, 17, 19) (by decide)
theorem xg_0_2 {σ : zS} (h : xSh σ) : zG σ 0 2 17 = some 20 := h.2.2 (0, 2, 17, 20) (by decide)
theorem xg_4_0 {σ : zS} (h : xSh σ) : zG σ 4 0 21 = some 22 := h.2.2 (4, 0, 21, 22) (by decide)
theorem xg_4_1 {σ : zS} (h : xSh σ) : zG σ 4 1 21 = some 23 := h.2.2 (4, 1, 21, 23) (by decide)
theorem xg_4_2 {σ : zS} (h : xSh σ) : zG σ 4 2 21 = some 24 := h.2.2 (4, 2, 21, 24) (by decide)
theorem xg_4_3 {σ : zS} (h : xSh σ) : zG σ 4 3 21 = some 25 := h.2.2 (4, 3, 21, 25) (by decide)
theorem xg_4_4 {σ : zS} (h : xSh σ) : zG σ 4 4 21 = some 26 := h.2.2 (4, 4, 21, 26) (by decide)
theorem xg_4_5 {σ : zS} (h : xSh σ) : zG σ 4 5 21 = some 27 := h.2.2 (4, 5, 21, 27) (by decide)
theorem xg_4_6 {σ : zS} (h : xSh σ) : zG σ 4 6 21 = some 28 := h.2.2 (4, 6, 21, 28) (by decide)
theorem xg_4_7 {σ : zS} (h : xSh σ) : zG σ 4 7 21 = some 29 := h.2.2 (4, 7, 21, 29) (by decide)
theorem xSh.mono {σ σ' : zS} (h : xSh σ) (hK : ∀ a, zK σ a ≠ 999 → zK σ' a = zK σ a) (hL : ∀ a, zK σ a ≠ 999 → zL σ' a = zL σ a) (hG : ∀ c k a, zK σ a ≠ 999 → ¬ (c = 3 ∧ k = 7) → zG σ' c k a = zG σ c k a) : xSh σ' := by
  have k0 : ∀ q ∈ xKs, q.2 ≠ 999 := by decide
  have k1 : ∀ q ∈ xLs, ∃ z ∈ xKs, z.1 = q.1 := by decide
  have k2 : ∀ q ∈ xGs, (∃ z ∈ xKs, z.1 = q.2.2.1) ∧ ¬ (q.1 = 3 ∧ q.2.1 = 7) := by decide
  have f : ∀ a, (∃ z ∈ xKs, z.1 = a) → zK σ a ≠ 999 := by
    rintro a ⟨z, hz, rfl⟩
    rw [h.1 z hz]
    exact k0 z hz
  refine ⟨fun q hq => ?_, fun q hq => ?_, fun q hq => ?_⟩
  · rw [hK _ (f _ ⟨q, hq, rfl⟩)]
    exact h.1 q hq
  · rw [hL _ (f _ (k1 q hq))]
    exact h.2.1 q hq
  · rw [hG _ _ _ (f _ (k2 q hq).1) (k2 q hq).2]
    exact h.2.2 q hq
/-- the row of steps lies at pk -/
def xPk (σ : zS) (pk : Nat) : Prop := zG σ 3 7 8 = some pk ∧ zK σ pk = 100 ∧ (pk = 16 ∨ 30 ≤ pk)
theorem xPk_pos {σ : zS} {pk : Nat} (h : xPk σ pk) : 0 < pk := by rcases h.2.2 with e | e <;> omega
/-- numbers of the checker's -/
def xP (σ : zS) : Int32 := zF σ 2 5 2
def xV (σ : zS) : Int32 := zF σ 2 6 2
def xS (σ : zS) : Int32 := zF σ 3 8 8
def xT (σ : zS) : Int32 := zF σ 3 9 8
