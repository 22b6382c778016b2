/-! what holds behind a step -/
theorem xGrow_I {σ : zS} (pk : Nat) {a : Nat} (h : a ≠ zn σ) : zI (xGrow σ pk) a = zI σ a := funext fun j => by
  show (if a = zn σ then _ else (if a = zn σ then 0 else zI σ a j)) = _
  rw [if_neg h, if_neg h]
theorem xLen_eq {σ : zS} {pk : Nat} (h : xPk σ pk) : xLen σ = zL σ pk := by
  unfold xLen
  rw [xPkOf_eq h]
theorem xI_stp {σ : zS} {pk n T s : Nat} {po : Nat → Nat} (h : xI σ pk n T po) (hT : T ≤ 512000) (k mov : Int32) :
    ∃ pk' n' T' po', xI (xStp σ s k mov) pk' n' T' po' ∧ xFr σ (xStp σ s k mov) pk pk' ∧ n ≤ n' ∧ T ≤ T' ∧ T' ≤ T + 1 ∧ zL σ pk ≤ zL (xStp σ s k mov) pk' ∧ (∀ i, i < n → zI (xStp σ s k mov) 9 i = zI σ 9 i) := by
  obtain ⟨h1, h2, h3, h4, h5, h6, h7, h8, h9, h10⟩ := id h
  rcases xStp_way h (by omega) s k mov with ⟨q1, q2, q3⟩ | ⟨g, q1, q2, q3, ⟨q4, q5⟩ | ⟨q4, q5⟩⟩
  · rw [q3]
    refine ⟨pk, n, T, po, ⟨h1, h2, h3.congr rfl rfl, ?_, h5, ?_, h7, h8, h9, h10⟩, xFr.upd rfl rfl rfl (fun c k a hc => ?_) rfl (fun _ _ _ => rfl) rfl rfl, Nat.le_refl _, Nat.le_refl _, by omega, Nat.le_refl _, fun _ _ => rfl⟩
    · rw [← h4]
      unfold xS
      rw [zF_zsF, if_neg (by decide)]
    · rw [← h6]
      unfold xT
      rw [zF_zsF, if_neg (by decide)]
    · rw [zF_zsF, if_neg (fun q => hc q.1)]
  · obtain ⟨n1, po1, w1, w2, w3, w4, w5, w6, w7, w8⟩ := q2.hs q1 h
    rw [q5]
    have p9 : (9 : Nat) ≠ pk := xPk_ne h2 (by decide)
    have p15 : (15 : Nat) ≠ pk := xPk_ne h2 (by decide)
    refine ⟨pk, n1, T + 1, po1, ⟨q2.sh h1, q2.pk h2, w4.congr (xAdd_I (by decide) p9) (xAdd_I (by decide) p15), xAdd_S.trans w5, w2, xAdd_T, ?_, ?_, ?_, q2.wf h10⟩, (q2.fr pk).tr (xAdd_fr ..), w1, by omega, by omega, ?_, fun i hi => ?_⟩
    · show T + 1 ≤ zL (xMk σ s k) pk
      rw [q2.len]; omega
    · show 1 ≤ zL (xMk σ s k) pk
      rw [q2.len]; omega
    · show zL (xMk σ s k) pk ≤ 2048 ∨ zL (xMk σ s k) pk ≤ 2 * (T + 1)
      rw [q2.len]; omega
    · show zL σ pk ≤ zL (xMk σ s k) pk
      rw [q2.len]; exact Nat.le_refl _
    · rw [xAdd_I (by decide) p9]
      exact w7 i hi
  · obtain ⟨n1, po1, w1, w2, w3, w4, w5, w6, w7, w8⟩ := q2.hs q1 h
    rw [q5]
    have hw1 := q2.wf h10
    have hs1 := q2.sh h1
    have n29 := zWF_lt hw1 (xk_29 hs1) (by decide)
    have g9 : zI (xAdd (xGrow (xMk σ s k) pk) (zn (xMk σ s k)) T g mov s) 9 = zI (xMk σ s k) 9 := (xAdd_I (by decide) (by omega)).trans (xGrow_I pk (by omega))
    have g15 : zI (xAdd (xGrow (xMk σ s k) pk) (zn (xMk σ s k)) T g mov s) 15 = zI (xMk σ s k) 15 := (xAdd_I (by decide) (by omega)).trans (xGrow_I pk (by omega))
    have hlen : zL (xAdd (xGrow (xMk σ s k) pk) (zn (xMk σ s k)) T g mov s) (zn (xMk σ s k)) = 2 * zL σ pk := (xGrow_len _ pk).trans (by rw [q2.len])
    refine ⟨zn (xMk σ s k), n1, T + 1, po1, ⟨xGrow_sh hw1 hs1 pk, xGrow_pk hw1 hs1 pk, w4.congr g9 g15, ?_, w2, xAdd_T, ?_, ?_, ?_, zWF_grow hw1 pk⟩, ((q2.fr pk).tr (xGrow_fr hw1 pk)).tr (xAdd_fr ..), w1, by omega, by omega, ?_, fun i hi => ?_⟩
    · exact xAdd_S.trans w5
    · rw [hlen]; omega
    · rw [hlen]; omega
    · rw [hlen]; omega
    · rw [hlen]; omega
    · rw [g9]
      exact w7 i hi
