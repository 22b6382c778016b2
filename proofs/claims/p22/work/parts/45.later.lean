/-! explore's loop over the later processes -/
/-- the moves as they may be told: of each process, few -/
def hMvs (L : Nat) (G : List Int32) (mvs : List (List hMv)) : Prop := mvs.length < 1000 ∧ ∀ b, b < L → ∃ ms, mvs[b]? = some ms ∧ ms.length ≤ 6 ∧ ∀ o, o ∈ ms → hMok L G o
def hBs (L : Nat) (G : List Int32) (mvs : List (List hMv)) (st beh : List Int32) (one : hMv) : Nat → Nat → List (List Int32) → List (List Int32)
  | 0, _, rows => rows
  | d + 1, b, rows => hBs L G mvs st beh one d (b + 1) (hKs L G st beh one b ((mvs[b]?).getD []) rows)
theorem hBs_all {L n : Nat} {G st beh : List Int32} {mvs : List (List hMv)} {one : hMv} (hb : beh.length = n) : ∀ (d b : Nat) (rows : List (List Int32)), (∀ r, r ∈ rows → r.length = n) → ∀ r, r ∈ hBs L G mvs st beh one d b rows → r.length = n
  | 0, _, _, h => h
  | d + 1, b, _, h => hBs_all hb d (b + 1) _ (hKs_all hb _ _ h)
theorem hBs_pre {L i : Nat} {G st beh r : List Int32} {mvs : List (List hMv)} {one : hMv} : ∀ (d b : Nat) (rows : List (List Int32)), rows[i]? = some r → (hBs L G mvs st beh one d b rows)[i]? = some r
  | 0, _, _, h => h
  | d + 1, b, _, h => hBs_pre d (b + 1) _ (hKs_pre _ _ h)
theorem hBs_le {L : Nat} {G st beh : List Int32} {mvs : List (List hMv)} {one : hMv} (hm : hMvs L G mvs) : ∀ (d b : Nat) (rows : List (List Int32)), b + d = L → rows.length ≤ (hBs L G mvs st beh one d b rows).length ∧ (hBs L G mvs st beh one d b rows).length ≤ rows.length + 6 * d
  | 0, _, _, _ => ⟨Nat.le_refl _, Nat.le_refl _⟩
  | d + 1, b, rows, h => by
    obtain ⟨ms, m1, m2, m3⟩ := hm.2 b (by omega)
    have h1 := hKs_le (L := L) (b := b) (G := G) (st := st) (beh := beh) (one := one) ((mvs[b]?).getD []) rows
    rw [m1] at h1
    have h2 := hBs_le (st := st) (beh := beh) (one := one) hm d (b + 1) (hKs L G st beh one b ((mvs[b]?).getD []) rows) (by omega)
    rw [m1] at h2
    show rows.length ≤ (hBs L G mvs st beh one d (b + 1) (hKs L G st beh one b ((mvs[b]?).getD []) rows)).length ∧ (hBs L G mvs st beh one d (b + 1) (hKs L G st beh one b ((mvs[b]?).getD []) rows)).length ≤ _
    rw [m1]
    simp only [Option.getD_some] at h1 h2 ⊢
    omega
theorem hTri_k {a : Nat} (h : a ≤ 129) : ∀ k, a + k ≤ 130 → hTri (a + k) ≤ hTri a + k * 130
  | 0, _ => by rw [Nat.zero_mul]; exact Nat.le_refl _
  | k + 1, hk => by
    have := hTri_k h k (by omega)
    show hTri (a + k) + (a + k + 1) ≤ _
    rw [Nat.succ_mul]
    omega
theorem hTri_6 {a b k : Nat} (h : b ≤ a + k) (hk : k ≤ 6) (ha : a + 6 ≤ 130) : hTri b ≤ hTri a + 6 * 130 := by
  have h1 := hTri_mono (show b ≤ a + 6 by omega)
  have h2 := hTri_k (a := a) (by omega) 6 ha
  omega
set_option maxHeartbeats 4000000 in
set_option maxRecDepth 100000 in
theorem lp_b {l : Launch} {σ0 : zS} {RC RS L n s a m be ob : Nat} {mo : Int32} {G st beh : List Int32} {mvs : List (List hMv)} {one : hMv} {Q : Option Value → zS → Prop} (h5 : L + G.length ≤ 5) (hbl : beh.length = L + G.length) (hmv : hMvs L G mvs) (hh : 0 < one.h) : ∀ (d b : Nat) (σ : zS) (rows : List (List Int32)) (rwl : List (List Int32)) (ra uc us : Nat), b + d = L → hAll σ0 σ L G mvs rows n → (∀ r, r ∈ rows → r.length = L + G.length) → rows[s]? = some st → iI σ be beh → iI σ ob one.row → iII σ ra rwl → rows.length + 6 * d < 432 → rwl.length + 6 * d < 130 → uc + 48 * d ≤ RC ∧ us + 8700 * d ≤ RS → (∀ σ' ra' rw' uc' us', hAll σ0 σ' L G mvs (hBs L G mvs st beh one d b rows) n → zY σ σ' → iII σ' ra' rw' → rw'.length ≤ rwl.length + 6 * d → uc' + 3 * rows.length ≤ uc + 30 * d + 3 * (hBs L G mvs st beh one d b rows).length → us' + hTri rwl.length + 1300 * rows.length ≤ us + 120 * d + hTri rw'.length + 1300 * (hBs L G mvs st beh one d b rows).length → zAW l zmX6_explore { frames := 3, cells := RC, slots := RS, locals := 79 } 355 [(0, .ref 30), (1, .int mo), (2, .int (nI L)), (4, .int (nI s)), (5, .ref (ra')), (6, .int (nI a)), (7, .int (nI m))] [] σ' uc' us' Q) → zAW l zmX6_explore { frames := 3, cells := RC, slots := RS, locals := 79 } 205 [(0, .ref 30), (1, .int mo), (2, .int (nI L)), (4, .int (nI s)), (5, .ref (ra)), (6, .int (nI a)), (7, .int (nI m)), (8, .ref ob), (9, .ref be), (10, .int (nI b))] [] σ uc us Q := by
  intro d
  induction d with
  | zero =>
    intro b σ rows rwl ra uc us hbd hA hrl hst hbe hob hra hb1 hb2 hR KK
    have kM := hA.2.2.1.1
    refine zw_iload dX6_explore_205 rfl ?_
    refine zw_iload_n dX6_explore_207 rfl ?_
    refine zw_icmpge (tgt := 355) dX6_explore_208 (by decide) (fun c208 => ?_) (fun c208 => ?_)
    · exact zw_loc (lc' := [(0, .ref 30), (1, .int mo), (2, .int (nI L)), (4, .int (nI s)), (5, .ref (ra)), (6, .int (nI a)), (7, .int (nI m))]) (zsub_cons rfl (zsub_cons rfl (zsub_cons rfl (zsub_cons rfl (zsub_cons rfl (zsub_cons rfl (zsub_cons rfl zsub_nil))))))) (KK σ ra rwl uc us hA (zY.rf _) hra (Nat.le_refl _) (Nat.le_refl _) (Nat.le_refl _))
    · exact absurd (nI_le (show L ≤ b by omega) (by omega)) c208
  | succ d ih =>
    intro b σ rows rwl ra uc us hbd hA hrl hst hbe hob hra hb1 hb2 hR KK
    obtain ⟨ms, m1, m2, m3⟩ := hmv.2 b (by omega)
    have e : hBs L G mvs st beh one (d + 1) b rows = hBs L G mvs st beh one d (b + 1) (hKs L G st beh one b (ms.drop 0) rows) := by
      show hBs L G mvs st beh one d (b + 1) (hKs L G st beh one b ((mvs[b]?).getD []) rows) = _
      rw [m1]
      rfl
    rw [e] at KK
    have kM := hA.2.2.1.1
    have hle := hKs_le (L := L) (b := b) (G := G) (st := st) (beh := beh) (one := one) (ms.drop 0) rows
    rw [List.drop_zero] at hle

    refine zw_iload dX6_explore_205 rfl ?_
    refine zw_iload_n dX6_explore_207 rfl ?_
    refine zw_icmpge (tgt := 355) dX6_explore_208 (by decide) (fun c208 => ?_) (fun c208 => ?_)
    · exact absurd c208 (nI_ge (show b < L by omega) (by omega))
    · refine zw_aload dX6_explore_211 rfl ?_
      refine zw_iconst (x := 2) dX6_explore_213 rfl ?_
      refine zw_iaload dX6_explore_214 hob.1 (nI_10 (by unfold vp_in; decide) hob) ?_
      rw [hrow_2 hob]
      refine zw_ifle (tgt := 355) dX6_explore_215 (by decide) (fun c215 => ?_) (fun c215 => ?_)
      · exact absurd hh (Int32.not_lt.mpr c215)
      · refine zw_iconst (x := 0) dX6_explore_218 rfl ?_
        refine zw_istore dX6_explore_219 (by decide) rfl ?_
        refine zw_loc (lc' := [(0, .ref 30), (1, .int mo), (2, .int (nI L)), (4, .int (nI s)), (5, .ref (ra)), (6, .int (nI a)), (7, .int (nI m)), (8, .ref ob), (9, .ref be), (10, .int (nI b)), (11, .int (nI 0))]) (zsub_cons rfl (zsub_cons rfl (zsub_cons rfl (zsub_cons rfl (zsub_cons rfl (zsub_cons rfl (zsub_cons rfl (zsub_cons rfl (zsub_cons rfl (zsub_cons rfl (zsub_cons rfl zsub_nil))))))))))) (lp_k h5 hbl m1 (by omega) m3 (by omega) hmv.1 ms.length 0 σ rows rwl ra uc us (Nat.zero_add _) hA hrl hst hbe hob hra (by omega) (by omega) (by omega) (fun σ' ra' rw' uc' us' hA' hy hra' f1 f2 f3 => ?_))
        rw [List.drop_zero] at f2 f3
        have tm : hTri rw'.length ≤ hTri rwl.length + 6 * 130 := hTri_6 f1 m2 (by omega)
        refine zw_iinc dX6_explore_349 rfl (by decide) rfl ?_
        refine zw_goto (tgt := 205) dX6_explore_352 (by decide) ?_
        refine zw_loc (lc' := [(0, .ref 30), (1, .int mo), (2, .int (nI L)), (4, .int (nI s)), (5, .ref (ra')), (6, .int (nI a)), (7, .int (nI m)), (8, .ref ob), (9, .ref be), (10, .int (nI b + 1))]) (zsub_cons rfl (zsub_cons rfl (zsub_cons rfl (zsub_cons rfl (zsub_cons rfl (zsub_cons rfl (zsub_cons rfl (zsub_cons rfl (zsub_cons rfl (zsub_cons rfl zsub_nil)))))))))) ?_
        rw [nI_1]
        exact ih (b + 1) σ' _ rw' ra' uc' us' (by omega) hA' (hKs_all hbl _ _ hrl) (hKs_pre _ _ hst) (hbe.y hy) (hob.y hy) hra' (by rw [List.drop_zero]; omega) (by omega) (by omega) (fun σ2 ra2 rw2 uc2 us2 g1 g2 g3 g4 g5 g6 => KK σ2 ra2 rw2 uc2 us2 g1 (hy.tr g2) g3 (by omega) (by rw [List.drop_zero] at g5 ⊢; omega) (by rw [List.drop_zero] at g6 ⊢; omega))
