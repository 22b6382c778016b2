/-! explore's loop over the moves of a process -/
def hCh (L : Nat) (G : List Int32) (mvs : List (List hMv)) (st : List Int32) (a : Nat) (one : hMv) (rows : List (List Int32)) : List (List Int32) :=
  if hOpn L G st a one = true then (match hDn L G st a one with
    | some t => if one.h = 0 then hAdd rows t else hBs L G mvs st t one (L - (a + 1)) (a + 1) rows
    | none => rows) else rows
theorem hOpn_some {L a : Nat} {G st : List Int32} {one : hMv} (h : hOpn L G st a one = true) : ∃ t, hDn L G st a one = some t := by
  unfold hOpn at h
  cases e : hDn L G st a one with
  | some t => exact ⟨t, rfl⟩
  | none =>
    rw [e, Bool.and_eq_true, Bool.and_eq_true] at h
    exact absurd h.2.1 (by simp)
set_option maxHeartbeats 4000000 in
set_option maxRecDepth 100000 in
theorem lp_355 {l : Launch} {σ0 σ : zS} {RC RS L n s a m ra uc us M : Nat} {mo : Int32} {G : List Int32} {mvs : List (List hMv)} {rows rwl : List (List Int32)} {Q : Option Value → zS → Prop} (hA : hAll σ0 σ L G mvs rows n) (hra : iII σ ra rwl) (hmo : mo = nI M) (hM : M < 1000) (hn : rows.length < 1000) (KF : M < rows.length → Q (some (.int 0)) σ) (KK : rows.length ≤ M → zAW l zmX6_explore { frames := 3, cells := RC, slots := RS, locals := 79 } 366 [(0, .ref 30), (1, .int mo), (2, .int (nI L)), (4, .int (nI s)), (5, .ref (ra)), (6, .int (nI a)), (7, .int (nI m))] [] σ uc us Q) : zAW l zmX6_explore { frames := 3, cells := RC, slots := RS, locals := 79 } 355 [(0, .ref 30), (1, .int mo), (2, .int (nI L)), (4, .int (nI s)), (5, .ref (ra)), (6, .int (nI a)), (7, .int (nI m))] [] σ uc us Q := by
  have kM := hA.2.2.1.1
  obtain ⟨sa, sg, sI⟩ := hA.2.2.1.2.2.1
  refine zw_aload_n dX6_explore_355 rfl ?_
  refine zw_getR dX6_explore_356 zfX6_25 rfl kM (by decide) sg ?_
  refine zw_alen (t := 4) dX6_explore_359 sI.1 (by decide) ?_
  refine zw_iload_n dX6_explore_360 rfl ?_
  rw [sI.2.2.2.1]
  refine zw_icmple (tgt := 366) dX6_explore_361 (by decide) (fun c361 => ?_) (fun c361 => ?_)
  · rw [hmo] at c361
    exact zw_loc (lc' := [(0, .ref 30), (1, .int mo), (2, .int (nI L)), (4, .int (nI s)), (5, .ref (ra)), (6, .int (nI a)), (7, .int (nI m))]) (zsub_cons rfl (zsub_cons rfl (zsub_cons rfl (zsub_cons rfl (zsub_cons rfl (zsub_cons rfl (zsub_cons rfl zsub_nil))))))) (KK (Nat.le_of_not_lt (fun q => nI_ge q (by omega) c361)))
  · refine zw_iconst (x := 0) dX6_explore_364 rfl ?_
    refine zw_iret dX6_explore_365 rfl rfl ?_
    rw [hmo] at c361
    exact KF (Nat.lt_of_not_le (fun q => c361 (nI_le q (by omega))))
theorem hCh_le {L a : Nat} {G st : List Int32} {mvs : List (List hMv)} {one : hMv} {rows : List (List Int32)} (hm : hMvs L G mvs) (ha : a < L) : rows.length ≤ (hCh L G mvs st a one rows).length ∧ (hCh L G mvs st a one rows).length ≤ rows.length + 6 * (L - (a + 1)) + 1 := by
  unfold hCh
  by_cases h1 : hOpn L G st a one = true
  · rw [if_pos h1]
    cases hDn L G st a one with
    | none =>
      show rows.length ≤ rows.length ∧ rows.length ≤ _
      exact ⟨Nat.le_refl _, by omega⟩
    | some t =>
      by_cases h2 : one.h = 0
      · show rows.length ≤ (if one.h = 0 then hAdd rows t else _).length ∧ (if one.h = 0 then hAdd rows t else _).length ≤ _
        rw [if_pos h2]
        have := hAdd_le rows t
        omega
      · show rows.length ≤ (if one.h = 0 then hAdd rows t else _).length ∧ (if one.h = 0 then hAdd rows t else _).length ≤ _
        rw [if_neg h2]
        have := hBs_le (st := st) (beh := t) (one := one) hm (L - (a + 1)) (a + 1) rows (by omega)
        omega
  · rw [if_neg h1]
    exact ⟨Nat.le_refl _, by omega⟩
theorem hCh_all {L a k : Nat} {G st : List Int32} {mvs : List (List hMv)} {one : hMv} {rows : List (List Int32)} (h : ∀ r, r ∈ rows → r.length = k) (hs : st.length = k) : ∀ r, r ∈ hCh L G mvs st a one rows → r.length = k := by
  unfold hCh
  by_cases h1 : hOpn L G st a one = true
  · rw [if_pos h1]
    cases hD : hDn L G st a one with
    | none => exact h
    | some t =>
      show ∀ r, r ∈ (if one.h = 0 then hAdd rows t else _) → _
      by_cases h2 : one.h = 0
      · rw [if_pos h2]; exact hAdd_all h ((hDn_len hD).trans hs)
      · rw [if_neg h2]; exact hBs_all ((hDn_len hD).trans hs) _ _ _ h
  · rw [if_neg h1]
    exact h
theorem hCh_pre {L a i : Nat} {G st r : List Int32} {mvs : List (List hMv)} {one : hMv} {rows : List (List Int32)} (h : rows[i]? = some r) : (hCh L G mvs st a one rows)[i]? = some r := by
  unfold hCh
  by_cases h1 : hOpn L G st a one = true
  · rw [if_pos h1]
    cases hD : hDn L G st a one with
    | none => exact h
    | some t =>
      show (if one.h = 0 then hAdd rows t else _)[i]? = _
      by_cases h2 : one.h = 0
      · rw [if_pos h2]; exact hAdd_pre h
      · rw [if_neg h2]; exact hBs_pre _ _ _ h
  · rw [if_neg h1]
    exact h
theorem lp_ch {l : Launch} {σ0 σ : zS} {RC RS L n s a m ra uc us : Nat} {mo : Int32} {G st : List Int32} {mvs : List (List hMv)} {ms : List hMv} {one : hMv} {rows rwl : List (List Int32)} {Q : Option Value → zS → Prop} (hA : hAll σ0 σ L G mvs rows n) (hrl : ∀ r, r ∈ rows → r.length = L + G.length) (h5 : L + G.length ≤ 5) (hst : rows[s]? = some st) (hra : iII σ ra rwl) (hma : mvs[a]? = some ms) (hk : ms[m]? = some one) (haL : a < L) (hmv : hMvs L G mvs) (hok : hMok L G one) (hn1 : rows.length + 6 * (L - (a + 1)) + 1 < 432) (hn2 : rwl.length + 6 * (L - (a + 1)) + 1 < 130) (hn3 : ms.length ≤ 6) (hR : uc + 4 + 48 * (L - (a + 1)) + 3 ≤ RC ∧ us + 10 + 1450 + 8700 * (L - (a + 1)) ≤ RS) {M : Nat} (hmo : mo = nI M) (hM : M < 1000) (hM0 : rows.length ≤ M) (hpos : 0 ≤ one.h) (KF : ∀ σ' v, zY σ σ' → v = some (.int 0) → M < (hCh L G mvs st a one rows).length → Q v σ') (KK : ∀ σ' ra' rw' uc' us', hAll σ0 σ' L G mvs (hCh L G mvs st a one rows) n → zY σ σ' → iII σ' ra' rw' → rw'.length ≤ rwl.length + 6 * (L - (a + 1)) + 1 → uc' + 3 * rows.length ≤ uc + 4 + 30 * (L - (a + 1)) + 3 * (hCh L G mvs st a one rows).length → us' + hTri rwl.length + 1300 * rows.length ≤ us + 15 + 120 * (L - (a + 1)) + hTri rw'.length + 1300 * (hCh L G mvs st a one rows).length → (hCh L G mvs st a one rows).length ≤ M → zAW l zmX6_explore { frames := 3, cells := RC, slots := RS, locals := 79 } 366 [(0, .ref 30), (1, .int mo), (2, .int (nI L)), (4, .int (nI s)), (5, .ref (ra')), (6, .int (nI a)), (7, .int (nI m))] [] σ' uc' us' Q) : zAW l zmX6_explore { frames := 3, cells := RC, slots := RS, locals := 79 } 100 [(0, .ref 30), (1, .int mo), (2, .int (nI L)), (4, .int (nI s)), (5, .ref (ra)), (6, .int (nI a)), (7, .int (nI m))] [] σ uc us Q := by
  have hcl := hCh_le (st := st) (one := one) (rows := rows) hmv haL
  cases hv2 : hOpn L G st a one with
  | false =>
    have e : hCh L G mvs st a one rows = rows := by unfold hCh; rw [if_neg (by rw [hv2]; decide)]
    rw [e] at KK
    exact lp_ch_1 hA hrl h5 hst hra hma hk haL hmv hok hn1 hn2 hn3 hR hv2 (fun σ' ra' rw' uc' us' g1 g2 g3 g4 g5 g6 => KK σ' ra' rw' uc' us' g1 g2 g3 g4 g5 g6 hM0)
  | true =>
    obtain ⟨t, hD⟩ := hOpn_some hv2
    by_cases hh : one.h = 0
    · have e : hCh L G mvs st a one rows = hAdd rows t := by unfold hCh; rw [if_pos hv2, hD]; exact if_pos hh
      rw [e] at KK KF hcl
      by_cases hT : t ∈ rows
      · have e2 : hAdd rows t = rows := if_pos hT
        rw [e2] at KK KF hcl
        obtain ⟨ix, hix⟩ := hFx_some rows hT
        exact lp_ch_2 hA hrl h5 hst hra hma hk haL hmv hok hn1 hn2 hn3 hR hv2 hD hh hix (fun σ' ra' rw' uc' us' g1 g2 g3 g4 g5 g6 => lp_355 g1 g3 hmo hM (by omega) (fun q => KF σ' _ g2 rfl q) (KK σ' ra' rw' uc' us' g1 g2 g3 g4 g5 g6))
      · have e2 : hAdd rows t = rows ++ [t] := if_neg hT
        rw [e2] at KK KF hcl
        exact lp_ch_3 hA hrl h5 hst hra hma hk haL hmv hok hn1 hn2 hn3 hR hv2 hD hh hT (fun σ' ra' rw' uc' us' g1 g2 g3 g4 g5 g6 => lp_355 g1 g3 hmo hM (by omega) (fun q => KF σ' _ g2 rfl q) (KK σ' ra' rw' uc' us' g1 g2 g3 g4 g5 g6))
    · have hh2 : 0 < one.h := by
        rcases Int32.lt_or_eq_of_le hpos with q | q
        · exact q
        · exact absurd q.symm hh
      have e : hCh L G mvs st a one rows = hBs L G mvs st t one (L - (a + 1)) (a + 1) rows := by unfold hCh; rw [if_pos hv2, hD]; exact if_neg hh
      rw [e] at KK KF hcl
      exact lp_ch_4 hA hrl h5 hst hra hma hk haL hmv hok hn1 hn2 hn3 hR hv2 hD hh2 (fun σ' ra' rw' uc' us' g1 g2 g3 g4 g5 g6 => lp_355 g1 g3 hmo hM (by omega) (fun q => KF σ' _ g2 rfl q) (KK σ' ra' rw' uc' us' g1 g2 g3 g4 g5 g6))
