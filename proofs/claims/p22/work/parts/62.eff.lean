/-! what a step added does, told of the rows -/
theorem xNew_I (σ : zS) (k d : Int32) (t p n a j : Nat) : zI (xNew σ k t p d n) a j = if a = 15 ∧ j = t then nI n else if a = 12 ∧ j = n then zF σ 3 9 8 - zI σ 14 p else if a = 11 ∧ j = n then nI p else if a = 10 ∧ j = n then d else if a = 9 ∧ j = n then k else zI σ a j := by
  unfold xNew
  rw [zI_zsF, zI_zsI, zI_zsI, zI_zsI, zI_zsI, zI_zsI]
theorem xNew_I0 (σ : zS) (k d : Int32) (t p n : Nat) {a : Nat} (h : ¬ (9 ≤ a ∧ a ≤ 12)) (h2 : a ≠ 15) : zI (xNew σ k t p d n) a = zI σ a := funext fun j => by
  rw [xNew_I, if_neg (by omega), if_neg (by omega), if_neg (by omega), if_neg (by omega), if_neg (by omega)]
theorem xNew_F (σ : zS) (k d : Int32) (t p n : Nat) : zF (xNew σ k t p d n) 3 10 8 = zF σ 3 10 8 := by
  unfold xNew
  rw [zF_zsF, if_neg (by decide), zF_zsI, zF_zsI, zF_zsI, zF_zsI, zF_zsI]
theorem xAdd_at {σ : zS} {pk T g s : Nat} {mov : Int32} (h : pk ≠ 13) (i : Nat) : zI (xAdd σ pk T g mov s) pk i = if i = T then mov ||| nI g else zI σ pk i := by
  unfold xAdd
  rw [zI_zsI, if_neg (fun q => h q.1), zI_zsF, zI_zsI]
  by_cases e : i = T
  · rw [if_pos ⟨rfl, e⟩, if_pos e]
  · rw [if_neg (fun q => e q.2), if_neg e]
theorem xAdd_13 {σ : zS} {pk T g s : Nat} {mov : Int32} (h : pk ≠ 13) (j : Nat) : zI (xAdd σ pk T g mov s) 13 j = if j = s then zI σ 13 s ||| xTk mov else zI σ 13 j := by
  unfold xAdd
  rw [zI_zsI]
  by_cases e : j = s
  · rw [if_pos ⟨rfl, e⟩, if_pos e]
  · rw [if_neg (fun q => e q.2), if_neg e, zI_zsF, zI_zsI, if_neg (fun q => h q.1.symm)]
theorem xAdd_F {σ : zS} {pk T g s : Nat} {mov : Int32} : zF (xAdd σ pk T g mov s) 3 10 8 = zF σ 3 10 8 := by
  unfold xAdd
  rw [zF_zsI, zF_zsF, if_neg (by decide), zF_zsI]
theorem xGrow_at {σ : zS} {pk i : Nat} (h : i < zL σ pk) : zI (xGrow σ pk) (zn σ) i = zI σ pk i := by
  show (if zn σ = zn σ then va_cpy (zI σ pk) (fun _ => 0) 0 0 (zL σ pk) i else _) = _
  rw [if_pos rfl]
  show (if 0 ≤ i ∧ i < 0 + zL σ pk then zI σ pk (0 + (i - 0)) else 0) = _
  rw [if_pos ⟨Nat.zero_le _, by omega⟩, Nat.sub_zero, Nat.zero_add]
theorem xStp_eff {σ : zS} {pk n T s : Nat} {po : Nat → Nat} {k mov : Int32} (h : xI σ pk n T po) (hT : T ≤ 512000) (hf : n < 400 ∨ k ∈ xKeys σ n) :
    ∃ pk' po' g n', n' = (kAdd (xKeys σ n) k).length ∧ xI (xStp σ s k mov) pk' n' (T + 1) po' ∧ zF (xStp σ s k mov) 3 10 8 = zF σ 3 10 8 ∧ g < n' ∧ (∀ i, i < T → zI (xStp σ s k mov) pk' i = zI σ pk i) ∧ zI (xStp σ s k mov) pk' T = mov ||| nI g ∧
      (∀ j, zI (xStp σ s k mov) 13 j = if j = s then zI σ 13 s ||| xTk mov else zI σ 13 j) ∧ zI (xStp σ s k mov) 14 = zI σ 14 ∧ (∀ a, a = 10 ∨ a = 11 ∨ a = 12 → ∀ i, i < n → zI (xStp σ s k mov) a i = zI σ a i) ∧
      (n' = n ∨ (n' = n + 1 ∧ g = n ∧ zI (xStp σ s k mov) 10 n = zI σ 10 s + 1 ∧ zI (xStp σ s k mov) 11 n = nI s ∧ zI (xStp σ s k mov) 12 n = xT σ - zI σ 14 s)) := by
  obtain ⟨h1, h2, h3, h4, h5, h6, h7, h8, h9, h10⟩ := id h
  have hpk := h2.2.2
  rcases xStp_way h (by omega) s k mov with ⟨q1, q2, q3⟩ | ⟨g, q1, q2, q3, hway⟩
  · exfalso
    rcases hf with q | q
    · omega
    · obtain ⟨t, t1, t2⟩ := xKeys_mem.mp q
      rw [xSlot_old h3 h5 t1 t2] at q2
      exact nI_pos (by omega) q2
  · obtain ⟨n1, po1, w1, w2, w3, w4, w5, w6, w7, w8⟩ := q2.hs q1 h
    have hle := kAdd_le (xKeys σ n) k
    rw [xKeys_len] at hle
    have en : n1 = (kAdd (xKeys σ n) k).length := (nI_eq (by omega) (by omega)).mp (w5.symm.trans (xMk_xS h3 h5 h4))
    have f0 : ∀ a, ¬ (9 ≤ a ∧ a ≤ 12) → a ≠ 15 → zI (xMk σ s k) a = zI σ a := by
      intro a ha ha2
      rcases w8 with ⟨-, e⟩ | ⟨-, -, -, t, e⟩
      · rw [e]
      · rw [e]; exact xNew_I0 _ _ _ _ _ _ ha ha2
    have fF : zF (xMk σ s k) 3 10 8 = zF σ 3 10 8 := by
      rcases w8 with ⟨-, e⟩ | ⟨-, -, -, t, e⟩
      · rw [e]
      · rw [e]; exact xNew_F ..
    have f1 : ∀ a, a = 10 ∨ a = 11 ∨ a = 12 → ∀ i, i < n → zI (xMk σ s k) a i = zI σ a i := by
      intro a ha i hi
      rcases w8 with ⟨-, e⟩ | ⟨-, -, -, t, e⟩
      · rw [e]
      · rw [e, xNew_I, if_neg (by omega), if_neg (by omega), if_neg (by omega), if_neg (by omega), if_neg (by omega)]
    have f2 : n1 = n ∨ (n1 = n + 1 ∧ g = n ∧ zI (xMk σ s k) 10 n = zI σ 10 s + 1 ∧ zI (xMk σ s k) 11 n = nI s ∧ zI (xMk σ s k) 12 n = xT σ - zI σ 14 s) := by
      rcases w8 with ⟨e, -⟩ | ⟨e1, e2, -, t, e⟩
      · exact Or.inl e
      · refine Or.inr ⟨e1, e2, ?_, ?_, ?_⟩
        · rw [e, xNew_I, if_neg (by omega), if_neg (by omega), if_neg (by omega), if_pos ⟨rfl, rfl⟩]
        · rw [e, xNew_I, if_neg (by omega), if_neg (by omega), if_pos ⟨rfl, rfl⟩]
        · rw [e, xNew_I, if_neg (by omega), if_pos ⟨rfl, rfl⟩]
          rfl
    have p9 : ∀ a, a < 16 → a ≠ pk := fun a ha => xPk_ne h2 ha
    rcases hway with ⟨q4, q5⟩ | ⟨q4, q5⟩
    · rw [q5]
      refine ⟨pk, po1, g, n1, en, ⟨q2.sh h1, q2.pk h2, w4.congr (xAdd_I (by decide) (p9 9 (by decide))) (xAdd_I (by decide) (p9 15 (by decide))), xAdd_S.trans w5, w2, xAdd_T, ?_, ?_, ?_, q2.wf h10⟩, xAdd_F.trans fF, w3, fun i hi => ?_, ?_, fun j => ?_, ?_, fun a ha i hi => ?_, ?_⟩
      · show T + 1 ≤ zL (xMk σ s k) pk
        rw [q2.len]; omega
      · show 1 ≤ zL (xMk σ s k) pk
        rw [q2.len]; omega
      · show zL (xMk σ s k) pk ≤ 2048 ∨ zL (xMk σ s k) pk ≤ 2 * (T + 1)
        rw [q2.len]; omega
      · rw [xAdd_at (fun q => p9 13 (by decide) q.symm), if_neg (by omega), f0 pk (by omega) (by omega)]
      · rw [xAdd_at (fun q => p9 13 (by decide) q.symm), if_pos rfl]
      · rw [xAdd_13 (fun q => p9 13 (by decide) q.symm), f0 13 (by omega) (by omega)]
      · rw [xAdd_I (by decide) (p9 14 (by decide)), f0 14 (by omega) (by omega)]
      · rw [xAdd_I (by omega) (p9 a (by omega))]
        exact f1 a ha i hi
      · rcases f2 with e | ⟨e1, e2, e3, e4, e5⟩
        · exact Or.inl e
        · refine Or.inr ⟨e1, e2, ?_, ?_, ?_⟩
          · rw [xAdd_I (by decide) (p9 10 (by decide))]; exact e3
          · rw [xAdd_I (by decide) (p9 11 (by decide))]; exact e4
          · rw [xAdd_I (by decide) (p9 12 (by decide))]; exact e5
    · have hw1 := q2.wf h10
      have hs1 := q2.sh h1
      have n29 := zWF_lt hw1 (xk_29 hs1) (by decide)
      have hlen : zL (xAdd (xGrow (xMk σ s k) pk) (zn (xMk σ s k)) T g mov s) (zn (xMk σ s k)) = 2 * zL σ pk := (xGrow_len _ pk).trans (by rw [q2.len])
      have g0 : ∀ a, a < 16 → a ≠ 13 → zI (xAdd (xGrow (xMk σ s k) pk) (zn (xMk σ s k)) T g mov s) a = zI (xMk σ s k) a := fun a ha h13 => (xAdd_I h13 (by omega)).trans (xGrow_I pk (by omega))
      rw [q5]
      refine ⟨zn (xMk σ s k), po1, g, n1, en, ⟨xGrow_sh hw1 hs1 pk, xGrow_pk hw1 hs1 pk, w4.congr (g0 9 (by decide) (by decide)) (g0 15 (by decide) (by decide)), xAdd_S.trans w5, w2, xAdd_T, ?_, ?_, ?_, zWF_grow hw1 pk⟩, xAdd_F.trans fF, w3, fun i hi => ?_, ?_, fun j => ?_, ?_, fun a ha i hi => ?_, ?_⟩
      · rw [hlen]; omega
      · rw [hlen]; omega
      · rw [hlen]; omega
      · rw [xAdd_at (by omega), if_neg (by omega), xGrow_at (by rw [q2.len]; omega), f0 pk (by omega) (by omega)]
      · rw [xAdd_at (by omega), if_pos rfl]
      · rw [xAdd_13 (by omega), xGrow_I pk (by omega), f0 13 (by omega) (by omega)]
      · rw [g0 14 (by decide) (by decide), f0 14 (by omega) (by omega)]
      · rw [g0 a (by omega) (by omega)]
        exact f1 a ha i hi
      · rcases f2 with e | ⟨e1, e2, e3, e4, e5⟩
        · exact Or.inl e
        · refine Or.inr ⟨e1, e2, ?_, ?_, ?_⟩
          · rw [g0 10 (by decide) (by decide)]; exact e3
          · rw [g0 11 (by decide) (by decide)]; exact e4
          · rw [g0 12 (by decide) (by decide)]; exact e5
