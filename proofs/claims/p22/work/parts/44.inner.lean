/-! explore's innermost loop -/
theorem lp_k_any {l : Launch} {σ0 σ : zS} {RC RS L n s a m b k be ob ra uc us : Nat} {mo : Int32} {G st beh : List Int32} {mvs : List (List hMv)} {ms : List hMv} {one o : hMv} {rows rwl : List (List Int32)} {Q : Option Value → zS → Prop} (hA : hAll σ0 σ L G mvs rows n) (hrl : ∀ r, r ∈ rows → r.length = L + G.length) (h5 : L + G.length ≤ 5) (hst : rows[s]? = some st) (hbe : iI σ be beh) (hbl : beh.length = L + G.length) (hob : iI σ ob one.row) (hra : iII σ ra rwl) (hmb : mvs[b]? = some ms) (hk : ms[k]? = some o) (hbL : b < L) (hok : hMok L G o) (hn1 : rows.length < 432) (hn2 : rwl.length < 1000) (hn3 : ms.length < 1000) (hn4 : mvs.length < 1000) (hR : uc + 8 ≤ RC ∧ us + (15 + 5 + (rwl.length + 1) + 3 * (rows.length + 1)) ≤ RS) (KK : ∀ σ' ra' rw' uc' us', hAll σ0 σ' L G mvs (hAddO rows (hPr L G st beh one b o)) n → zY σ σ' → iII σ' ra' rw' → rw'.length ≤ rwl.length + 1 → uc' + 3 * rows.length ≤ uc + 5 + 3 * (hAddO rows (hPr L G st beh one b o)).length → us' + hTri rwl.length + 1300 * rows.length ≤ us + 20 + hTri rw'.length + 1300 * (hAddO rows (hPr L G st beh one b o)).length → zAW l zmX6_explore { frames := 3, cells := RC, slots := RS, locals := 79 } 343 [(0, .ref 30), (1, .int mo), (2, .int (nI L)), (4, .int (nI s)), (5, .ref (ra')), (6, .int (nI a)), (7, .int (nI m)), (8, .ref ob), (9, .ref be), (10, .int (nI b)), (11, .int (nI k))] [] σ' uc' us' Q) : zAW l zmX6_explore { frames := 3, cells := RC, slots := RS, locals := 79 } 221 [(0, .ref 30), (1, .int mo), (2, .int (nI L)), (4, .int (nI s)), (5, .ref (ra)), (6, .int (nI a)), (7, .int (nI m)), (8, .ref ob), (9, .ref be), (10, .int (nI b)), (11, .int (nI k))] [] σ uc us Q := by
  by_cases hv : o.h = one.h
  · cases hv2 : hOpn L G st b o with
    | false =>
      have e : hAddO rows (hPr L G st beh one b o) = rows := by unfold hPr; rw [if_pos hv, if_neg (by rw [hv2]; decide)]; rfl
      rw [e] at KK
      exact lp_k_2 hA hrl h5 hst hbe hbl hob hra hmb hk hbL hok hn1 hn2 hn3 hn4 hR hv hv2 KK
    | true =>
      have e0 : (hPr L G st beh one b o) = hDn L G beh b o := by unfold hPr; rw [if_pos hv, if_pos hv2]
      cases hD : hDn L G beh b o with
      | none =>
        have e : hAddO rows (hPr L G st beh one b o) = rows := by rw [e0, hD]; rfl
        rw [e] at KK
        exact lp_k_3 hA hrl h5 hst hbe hbl hob hra hmb hk hbL hok hn1 hn2 hn3 hn4 hR hv hv2 hD KK
      | some t =>
        by_cases hT : t ∈ rows
        · have e : hAddO rows (hPr L G st beh one b o) = rows := by rw [e0, hD]; exact if_pos hT
          rw [e] at KK
          obtain ⟨ix, hix⟩ := hFx_some rows hT
          exact lp_k_4 hA hrl h5 hst hbe hbl hob hra hmb hk hbL hok hn1 hn2 hn3 hn4 hR hv hv2 hD hix KK
        · have e : hAddO rows (hPr L G st beh one b o) = rows ++ [t] := by rw [e0, hD]; exact if_neg hT
          rw [e] at KK
          exact lp_k_5 hA hrl h5 hst hbe hbl hob hra hmb hk hbL hok hn1 hn2 hn3 hn4 hR hv hv2 hD hT KK
  · have e : hAddO rows (hPr L G st beh one b o) = rows := by unfold hPr; rw [if_neg hv]; rfl
    rw [e] at KK
    exact lp_k_1 hA hrl h5 hst hbe hbl hob hra hmb hk hbL hok hn1 hn2 hn3 hn4 hR hv KK
theorem hTri_mono {a b : Nat} (h : a ≤ b) : hTri a ≤ hTri b := by
  induction b with
  | zero => rw [Nat.le_zero.mp h]; exact Nat.le_refl _
  | succ b ih =>
    by_cases e : a = b + 1
    · rw [e]; exact Nat.le_refl _
    · exact Nat.le_trans (ih (by omega)) (Nat.le_add_right _ _)
theorem hAddO_le (rows : List (List Int32)) (o : Option (List Int32)) : rows.length ≤ (hAddO rows o).length ∧ (hAddO rows o).length ≤ rows.length + 1 := by
  cases o with
  | none => exact ⟨Nat.le_refl _, Nat.le_succ _⟩
  | some t => exact hAdd_le rows t
theorem hAddO_pre {rows : List (List Int32)} {o : Option (List Int32)} {i : Nat} {r : List Int32} (h : rows[i]? = some r) : (hAddO rows o)[i]? = some r := by
  cases o with
  | none => exact h
  | some t => exact hAdd_pre h
theorem hPr_len {L b : Nat} {G st beh t : List Int32} {one o : hMv} (h : hPr L G st beh one b o = some t) : t.length = beh.length := by
  unfold hPr at h
  by_cases c1 : o.h = one.h
  · rw [if_pos c1] at h
    by_cases c2 : hOpn L G st b o = true
    · rw [if_pos c2] at h; exact hDn_len h
    · rw [if_neg c2] at h; cases h
  · rw [if_neg c1] at h; cases h
theorem hAddO_all {L b : Nat} {G st beh : List Int32} {one o : hMv} {rows : List (List Int32)} {n : Nat} (h : ∀ r, r ∈ rows → r.length = n) (hb : beh.length = n) : ∀ r, r ∈ hAddO rows (hPr L G st beh one b o) → r.length = n := by
  cases e : hPr L G st beh one b o with
  | none => exact h
  | some t => exact hAdd_all h ((hPr_len e).trans hb)
theorem hKs_all {L b n : Nat} {G st beh : List Int32} {one : hMv} (hb : beh.length = n) : ∀ (l : List hMv) (rows : List (List Int32)), (∀ r, r ∈ rows → r.length = n) → ∀ r, r ∈ hKs L G st beh one b l rows → r.length = n
  | [], _, h => h
  | _ :: l, _, h => hKs_all hb l _ (hAddO_all h hb)
theorem hKs_le {L b : Nat} {G st beh : List Int32} {one : hMv} : ∀ (l : List hMv) (rows : List (List Int32)), rows.length ≤ (hKs L G st beh one b l rows).length ∧ (hKs L G st beh one b l rows).length ≤ rows.length + l.length
  | [], _ => ⟨Nat.le_refl _, Nat.le_refl _⟩
  | o :: l, rows => by
    have h1 := hAddO_le rows (hPr L G st beh one b o)
    have h2 := hKs_le (L := L) (b := b) (G := G) (st := st) (beh := beh) (one := one) l (hAddO rows (hPr L G st beh one b o))
    show rows.length ≤ (hKs L G st beh one b l _).length ∧ _ ≤ rows.length + (l.length + 1)
    exact ⟨Nat.le_trans h1.1 h2.1, Nat.le_trans h2.2 (by omega)⟩
theorem hKs_pre {L b i : Nat} {G st beh r : List Int32} {one : hMv} : ∀ (l : List hMv) (rows : List (List Int32)), rows[i]? = some r → (hKs L G st beh one b l rows)[i]? = some r
  | [], _, h => h
  | _ :: l, _, h => hKs_pre l _ (hAddO_pre h)
set_option maxHeartbeats 4000000 in
set_option maxRecDepth 100000 in
theorem lp_k {l : Launch} {σ0 : zS} {RC RS L n s a m b be ob : Nat} {mo : Int32} {G st beh : List Int32} {mvs : List (List hMv)} {ms : List hMv} {one : hMv} {Q : Option Value → zS → Prop} (h5 : L + G.length ≤ 5) (hbl : beh.length = L + G.length) (hmb : mvs[b]? = some ms) (hbL : b < L) (hok : ∀ o, o ∈ ms → hMok L G o) (hn3 : ms.length < 1000) (hn4 : mvs.length < 1000) : ∀ (d k : Nat) (σ : zS) (rows : List (List Int32)) (rwl : List (List Int32)) (ra uc us : Nat), k + d = ms.length → hAll σ0 σ L G mvs rows n → (∀ r, r ∈ rows → r.length = L + G.length) → rows[s]? = some st → iI σ be beh → iI σ ob one.row → iII σ ra rwl → rows.length + d < 432 → rwl.length + d < 130 → uc + 8 * d ≤ RC ∧ us + 1450 * d ≤ RS → (∀ σ' ra' rw' uc' us', hAll σ0 σ' L G mvs (hKs L G st beh one b (ms.drop k) rows) n → zY σ σ' → iII σ' ra' rw' → rw'.length ≤ rwl.length + d → uc' + 3 * rows.length ≤ uc + 5 * d + 3 * (hKs L G st beh one b (ms.drop k) rows).length → us' + hTri rwl.length + 1300 * rows.length ≤ us + 20 * d + hTri rw'.length + 1300 * (hKs L G st beh one b (ms.drop k) rows).length → zAW l zmX6_explore { frames := 3, cells := RC, slots := RS, locals := 79 } 349 [(0, .ref 30), (1, .int mo), (2, .int (nI L)), (4, .int (nI s)), (5, .ref (ra')), (6, .int (nI a)), (7, .int (nI m)), (8, .ref ob), (9, .ref be), (10, .int (nI b))] [] σ' uc' us' Q) → zAW l zmX6_explore { frames := 3, cells := RC, slots := RS, locals := 79 } 221 [(0, .ref 30), (1, .int mo), (2, .int (nI L)), (4, .int (nI s)), (5, .ref (ra)), (6, .int (nI a)), (7, .int (nI m)), (8, .ref ob), (9, .ref be), (10, .int (nI b)), (11, .int (nI k))] [] σ uc us Q := by
  intro d
  induction d with
  | zero =>
    intro k σ rows rwl ra uc us hkd hA hrl hst hbe hob hra hb1 hb2 hR KK
    have e : hKs L G st beh one b (ms.drop k) rows = rows := by rw [List.drop_eq_nil_of_le (by omega)]; rfl
    rw [e] at KK
    have kM := hA.2.2.1.1
    obtain ⟨ma, mg, mI⟩ := hA.2.2.2.1
    obtain ⟨mb, mb1, mb2⟩ := mI.2.2.2.2 b _ hmb
    have hbm := (List.getElem?_eq_some_iff.mp hmb).1
    refine zw_iload dX6_explore_221 rfl ?_
    refine zw_aload_n dX6_explore_223 rfl ?_
    refine zw_getR dX6_explore_224 zfX6_21 rfl kM (by decide) mg ?_
    refine zw_iload dX6_explore_227 rfl ?_
    refine zw_aaload (t := 5) dX6_explore_229 mI.1 rfl (by decide) (zin_of mI.2.2.2.1 (vp_in_nI hbm (by omega))) ?_
    rw [nI_clamp (show b < 2 ^ 31 by omega), mb1]
    refine zw_alen (t := 4) dX6_explore_230 mb2.1 (by decide) ?_
    rw [mb2.2.2.2.1, List.length_map]
    refine zw_icmpge (tgt := 349) dX6_explore_231 (by decide) (fun c231 => ?_) (fun c231 => ?_)
    · exact zw_loc (lc' := [(0, .ref 30), (1, .int mo), (2, .int (nI L)), (4, .int (nI s)), (5, .ref (ra)), (6, .int (nI a)), (7, .int (nI m)), (8, .ref ob), (9, .ref be), (10, .int (nI b))]) (zsub_cons rfl (zsub_cons rfl (zsub_cons rfl (zsub_cons rfl (zsub_cons rfl (zsub_cons rfl (zsub_cons rfl (zsub_cons rfl (zsub_cons rfl (zsub_cons rfl zsub_nil)))))))))) (KK σ ra rwl uc us hA (zY.rf _) hra (Nat.le_refl _) (by omega) (by omega))
    · exact absurd (nI_le (show ms.length ≤ k by omega) (by omega)) c231
  | succ d ih =>
    intro k σ rows rwl ra uc us hkd hA hrl hst hbe hob hra hb1 hb2 hR KK
    have hkl : k < ms.length := by omega
    have hk : ms[k]? = some ms[k] := List.getElem?_eq_getElem hkl
    have e : hKs L G st beh one b (ms.drop k) rows = hKs L G st beh one b (ms.drop (k + 1)) (hAddO rows (hPr L G st beh one b ms[k])) := by rw [List.drop_eq_getElem_cons hkl]; rfl
    rw [e] at KK
    have hsl := (List.getElem?_eq_some_iff.mp hst).1
    refine lp_k_any hA hrl h5 hst hbe hbl hob hra hmb hk hbL (hok _ (List.getElem_mem hkl)) (by omega) (by omega) hn3 hn4 (by omega) (fun σ' ra' rw' uc' us' hA' hy hra' f1 f2 f3 => ?_)
    have ad := hAddO_le rows (hPr L G st beh one b ms[k])
    have tm : hTri rw'.length ≤ hTri rwl.length + (rwl.length + 1) := hTri_mono (b := rwl.length + 1) f1
    refine zw_iinc dX6_explore_343 rfl (by decide) rfl ?_
    refine zw_goto (tgt := 221) dX6_explore_346 (by decide) ?_
    refine zw_loc (lc' := [(0, .ref 30), (1, .int mo), (2, .int (nI L)), (4, .int (nI s)), (5, .ref (ra')), (6, .int (nI a)), (7, .int (nI m)), (8, .ref ob), (9, .ref be), (10, .int (nI b)), (11, .int (nI k + 1))]) (zsub_cons rfl (zsub_cons rfl (zsub_cons rfl (zsub_cons rfl (zsub_cons rfl (zsub_cons rfl (zsub_cons rfl (zsub_cons rfl (zsub_cons rfl (zsub_cons rfl (zsub_cons rfl zsub_nil))))))))))) ?_
    rw [nI_1]
    exact ih (k + 1) σ' _ rw' ra' uc' us' (by omega) hA' (hAddO_all hrl hbl) (hAddO_pre hst) (hbe.y hy) (hob.y hy) hra' (by omega) (by omega) (by omega) (fun σ2 ra2 rw2 uc2 us2 g1 g2 g3 g4 g5 g6 => KK σ2 ra2 rw2 uc2 us2 g1 (hy.tr g2) g3 (by omega) (by omega) (by omega))
