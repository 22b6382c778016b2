/-! what a step leaves as it was -/
/-- σ' is σ but for the state space's own numbers and rows (its row of steps at pk, then at pk') and for what is new -/
def xFr (σ σ' : zS) (pk pk' : Nat) : Prop :=
  zn σ ≤ zn σ' ∧ (pk' = pk ∨ zK σ pk' = 999) ∧ (∀ a, zK σ a ≠ 999 → zK σ' a = zK σ a) ∧ (∀ a, zK σ a ≠ 999 → zL σ' a = zL σ a) ∧ (∀ c k a, c ≠ 3 → zF σ' c k a = zF σ c k a) ∧
  (∀ c k a, zK σ a ≠ 999 → ¬ (c = 3 ∧ k = 7) → zG σ' c k a = zG σ c k a) ∧ (∀ a, zK σ a ≠ 999 → ¬ (9 ≤ a ∧ a ≤ 15) → a ≠ pk → zI σ' a = zI σ a) ∧ (∀ a, zK σ a ≠ 999 → zR σ' a = zR σ a) ∧ (∀ a, zK σ a ≠ 999 → zJ σ' a = zJ σ a)
theorem xFr.rf (σ : zS) (pk : Nat) : xFr σ σ pk pk := ⟨Nat.le_refl _, Or.inl rfl, fun _ _ => rfl, fun _ _ => rfl, fun _ _ _ _ => rfl, fun _ _ _ _ _ => rfl, fun _ _ _ _ => rfl, fun _ _ => rfl, fun _ _ => rfl⟩
theorem xFr.tr {σ σ1 σ2 : zS} {p p1 p2 : Nat} (h : xFr σ σ1 p p1) (h2 : xFr σ1 σ2 p1 p2) : xFr σ σ2 p p2 := by
  obtain ⟨a1, a2, a3, a4, a5, a6, a7, a8, a9⟩ := h
  obtain ⟨b1, b2, b3, b4, b5, b6, b7, b8, b9⟩ := h2
  have f : ∀ a, zK σ a ≠ 999 → zK σ1 a ≠ 999 := fun a h => by rw [a3 a h]; exact h
  refine ⟨Nat.le_trans a1 b1, ?_, fun a h => ?_, fun a h => ?_, fun c k a h => ?_, fun c k a h hc => ?_, fun a h hr hp => ?_, fun a h => ?_, fun a h => ?_⟩
  · rcases b2 with rfl | b2
    · exact a2
    · refine Or.inr ?_
      by_cases q : zK σ p2 = 999
      · exact q
      · exact absurd ((a3 p2 q).symm.trans b2) q
  · rw [b3 a (f a h), a3 a h]
  · rw [b4 a (f a h), a4 a h]
  · rw [b5 c k a h, a5 c k a h]
  · rw [b6 c k a (f a h) hc, a6 c k a h hc]
  · have hp1 : a ≠ p1 := by
      rcases a2 with e | e
      · rw [e]; exact hp
      · intro q
        rw [q] at h
        exact h e
    rw [b7 a (f a h) hr hp1, a7 a h hr hp]
  · rw [b8 a (f a h), a8 a h]
  · rw [b9 a (f a h), a9 a h]
/-- a heap whose numbers and rows alone differ -/
theorem xFr.upd {σ σ' : zS} {pk : Nat} (e0 : zn σ' = zn σ) (e1 : zK σ' = zK σ) (e2 : zL σ' = zL σ) (e3 : ∀ c k a, c ≠ 3 → zF σ' c k a = zF σ c k a) (e4 : zG σ' = zG σ) (e5 : ∀ a, ¬ (9 ≤ a ∧ a ≤ 15) → a ≠ pk → zI σ' a = zI σ a) (e6 : zR σ' = zR σ) (e7 : zJ σ' = zJ σ) : xFr σ σ' pk pk :=
  ⟨by rw [e0]; exact Nat.le_refl _, Or.inl rfl, fun a _ => by rw [e1], fun a _ => by rw [e2], e3, fun c k a _ _ => by rw [e4], fun a _ => e5 a, fun a _ => by rw [e6], fun a _ => by rw [e7]⟩
theorem xNew_fr (σ : zS) (k d : Int32) (t p n pk : Nat) : xFr σ (xNew σ k t p d n) pk pk := by
  refine xFr.upd rfl rfl rfl (fun c k' a hc => ?_) rfl (fun a h hp => funext fun j => ?_) rfl rfl
  · unfold xNew
    rw [zF_zsF, if_neg (fun q => hc q.1), zF_zsI, zF_zsI, zF_zsI, zF_zsI, zF_zsI]
  · unfold xNew
    rw [zI_zsF, zI_zsI, if_neg (by omega), zI_zsI, if_neg (by omega), zI_zsI, if_neg (by omega), zI_zsI, if_neg (by omega), zI_zsI, if_neg (by omega)]
theorem xNum.fr {σ σ1 : zS} {k : Int32} {s n g : Nat} (h : xNum σ k s n g σ1) (pk : Nat) : xFr σ σ1 pk pk := by
  obtain ⟨t, -, ⟨-, -, rfl⟩ | ⟨-, -, -, rfl⟩⟩ := h
  · exact xFr.rf _ pk
  · exact xNew_fr ..
theorem xAdd_fr (σ : zS) (pk T g : Nat) (mov : Int32) (s : Nat) : xFr σ (xAdd σ pk T g mov s) pk pk := by
  refine xFr.upd rfl rfl rfl (fun c k' a hc => ?_) rfl (fun a h hp => funext fun j => ?_) rfl rfl
  · unfold xAdd
    rw [zF_zsI, zF_zsF, if_neg (fun q => hc q.1), zF_zsI]
  · unfold xAdd
    rw [zI_zsI, if_neg (by omega), zI_zsF, zI_zsI, if_neg (fun q => hp q.1)]
theorem xGrow_fr {σ : zS} (hw : zWF σ) (pk : Nat) : xFr σ (xGrow σ pk) pk (zn σ) := by
  have hne : ∀ a, zK σ a ≠ 999 → a ≠ zn σ := fun a ha e => ha (by rw [e]; exact hw.2.2 _ (Nat.le_refl _))
  refine ⟨by rw [xGrow_zn]; omega, Or.inr (hw.2.2 _ (Nat.le_refl _)), fun a h => ?_, fun a h => ?_, fun c k a h => ?_, fun c k a h hc => ?_, fun a h hr hp => ?_, fun a h => ?_, fun a h => ?_⟩
  · show (if a = zn σ then 100 + 0 else zK σ a) = _
    rw [if_neg (hne a h)]
  · show (if a = zn σ then 2 * zL σ pk else zL σ a) = _
    rw [if_neg (hne a h)]
  · rfl
  · unfold xGrow
    rw [zG_zsG, if_neg (fun q => hc ⟨q.1, q.2.1⟩)]
    rfl
  · funext j
    show (if a = zn σ then _ else (if a = zn σ then 0 else zI σ a j)) = _
    rw [if_neg (hne a h), if_neg (hne a h)]
  · funext j
    show (if a = zn σ then none else zR σ a j) = _
    rw [if_neg (hne a h)]
  · funext j
    show (if a = zn σ then 0 else zJ σ a j) = _
    rw [if_neg (hne a h)]
theorem xAdd_T {σ : zS} {pk T g : Nat} {mov : Int32} {s : Nat} : xT (xAdd σ pk T g mov s) = nI (T + 1) := by
  unfold xT xAdd
  rw [zF_zsI, zF_zsF, if_pos ⟨rfl, rfl, rfl⟩]
theorem xAdd_S {σ : zS} {pk T g : Nat} {mov : Int32} {s : Nat} : xS (xAdd σ pk T g mov s) = xS σ := by
  unfold xS xAdd
  rw [zF_zsI, zF_zsF, if_neg (by decide), zF_zsI]
theorem xAdd_I {σ : zS} {pk T g : Nat} {mov : Int32} {s a : Nat} (h1 : a ≠ 13) (h2 : a ≠ pk) : zI (xAdd σ pk T g mov s) a = zI σ a := funext fun j => by
  unfold xAdd
  rw [zI_zsI, if_neg (fun q => h1 q.1), zI_zsF, zI_zsI, if_neg (fun q => h2 q.1)]
theorem xHs.congr {σ σ' : zS} {n : Nat} {po : Nat → Nat} (h : xHs σ n po) (e1 : zI σ' 9 = zI σ 9) (e2 : zI σ' 15 = zI σ 15) : xHs σ' n po := by
  unfold xHs at *
  rw [e1, e2]
  exact h
theorem xNew_S {σ : zS} {k d : Int32} {t p n : Nat} : xS (xNew σ k t p d n) = nI (n + 1) := by
  unfold xS xNew
  rw [zF_zsF, if_pos ⟨rfl, rfl, rfl⟩]
/-- the table of keys behind a number asked for -/
theorem xNum.hs {σ σ1 : zS} {k : Int32} {s n g pk T : Nat} {po : Nat → Nat} (h : xNum σ k s n g σ1) (hg4 : g < 400) (hi : xI σ pk n T po) : ∃ n1 po1, n ≤ n1 ∧ n1 ≤ 400 ∧ g < n1 ∧ xHs σ1 n1 po1 ∧ xS σ1 = nI n1 ∧ zI σ1 9 g = k ∧ (∀ i, i < n → zI σ1 9 i = zI σ 9 i) ∧ ((n1 = n ∧ σ1 = σ) ∨ (n1 = n + 1 ∧ g = n ∧ (∀ i, i < n → zI σ 9 i ≠ k) ∧ ∃ t, σ1 = xNew σ k t s (zI σ 10 s + 1) n)) := by
  obtain ⟨h1, h2, h3, h4, h5, h6, h7, h8, h9, h10⟩ := hi
  obtain ⟨t, ht, ⟨q1, q2, rfl⟩ | ⟨q1, q2, rfl, rfl⟩⟩ := h
  · have htl : t < 1024 := by rw [← ht]; exact xProbe_lt σ1 k 1024 _ (xHash_lt k)
    have hgn : g < n ∧ zI σ1 9 g = k := by
      by_cases hex : ∃ i, i < n ∧ zI σ1 9 i = k
      · obtain ⟨i, hi1, hi2⟩ := hex
        have hp := xProbe_found h3 h5 hi1
        rw [hi2, ht] at hp
        have := (h3.2.1 i hi1).2
        rw [← hp, q2] at this
        rcases h3.1 t htl with z | ⟨i', z1, z2, z3⟩
        · rw [z] at q1
          exact absurd m1_neg q1
        · rw [q2] at z2
          have e1 : i' = i := by
            have h31 := h3.2.1 i' z1
            have h32 := h3.2.1 i hi1
            have e2 : po i' = po i := z3.trans hp
            have e3 := h31.2
            rw [e2, h32.2] at e3
            exact ((nI_eq (by omega) (by omega)).mp e3).symm
          subst e1
          have := (nI_eq (show g < 2 ^ 31 by omega) (by omega)).mp z2
          subst this
          exact ⟨z1, hi2⟩
      · obtain ⟨d, d1, d2, d3, d4⟩ := xProbe_new h3 h5 (fun i hi e => hex ⟨i, hi, e⟩)
        rw [ht] at d2
        rw [← d2] at d3
        rw [d3] at q1
        exact absurd m1_neg q1
    exact ⟨n, po, Nat.le_refl _, h5, hgn.1, h3, h4, hgn.2, fun _ _ => rfl, Or.inl ⟨rfl, rfl⟩⟩
  · have hk : ∀ i, i < g → zI σ 9 i ≠ k := by
      intro i hi e
      have hp := xProbe_found h3 h5 hi
      rw [e, ht] at hp
      have := (h3.2.1 i hi).2
      rw [← hp] at this
      rw [this] at q1
      exact nI_pos (by omega) q1
    refine ⟨g + 1, xPo po g t, by omega, by omega, by omega, h3.add q2 hk ht, xNew_S, ?_, fun i hi => ?_, Or.inr ⟨rfl, rfl, hk, t, rfl⟩⟩
    · rw [xNew_9, if_pos rfl]
    · rw [xNew_9, if_neg (by omega)]
