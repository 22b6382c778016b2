/-! explore's loop over the processes -/
def hAl (L : Nat) (G : List Int32) (mvs : List (List hMv)) (st : List Int32) : Nat → Nat → List (List Int32) → List (List Int32)
  | 0, _, rows => rows
  | d + 1, a, rows => hAl L G mvs st d (a + 1) (hMl L G mvs st a ((mvs[a]?).getD []) rows)
theorem hAl_le {L : Nat} {G st : List Int32} {mvs : List (List hMv)} (hm : hMvs L G mvs) : ∀ (d a : Nat) (rows : List (List Int32)), a + d = L → rows.length ≤ (hAl L G mvs st d a rows).length
  | 0, _, _, _ => Nat.le_refl _
  | d + 1, a, rows, h => Nat.le_trans (hMl_le (st := st) hm (show a < L by omega) _ rows) (hAl_le hm d (a + 1) _ (by omega))
theorem hAl_all {L k : Nat} {G st : List Int32} {mvs : List (List hMv)} (hs : st.length = k) : ∀ (d a : Nat) (rows : List (List Int32)), (∀ r, r ∈ rows → r.length = k) → ∀ r, r ∈ hAl L G mvs st d a rows → r.length = k
  | 0, _, _, h => h
  | d + 1, a, _, h => hAl_all hs d (a + 1) _ (hMl_all hs _ _ h)
theorem hAl_pre {L i : Nat} {G st r : List Int32} {mvs : List (List hMv)} : ∀ (d a : Nat) (rows : List (List Int32)), rows[i]? = some r → (hAl L G mvs st d a rows)[i]? = some r
  | 0, _, _, h => h
  | d + 1, a, _, h => hAl_pre d (a + 1) _ (hMl_pre _ _ h)
def bR : Nat → Nat
  | 0 => 0
  | d + 1 => (6 * d + 1) * 6 + bR d
def bU : Nat → Nat
  | 0 => 0
  | d + 1 => (4 + 30 * d) * 6 + bU d
def bS : Nat → Nat
  | 0 => 0
  | d + 1 => (15 + 120 * d) * 6 + bS d
set_option maxHeartbeats 4000000 in
set_option maxRecDepth 100000 in
theorem lp_a {l : Launch} {σ0 : zS} {RC RS L n s M : Nat} {mo : Int32} {G st : List Int32} {mvs : List (List hMv)} {Q : Option Value → zS → Prop} (h5 : L + G.length ≤ 5) (hsl : st.length = L + G.length) (hmv : hMvs L G mvs) (hpos : ∀ (a : Nat) (ms : List hMv), mvs[a]? = some ms → ∀ o : hMv, o ∈ ms → 0 ≤ o.h) (hmo : mo = nI M) (hM : M ≤ 400) : ∀ (d a : Nat) (σ : zS) (rows rwl : List (List Int32)) (ra uc us : Nat), a + d = L → hAll σ0 σ L G mvs rows n → (∀ r, r ∈ rows → r.length = L + G.length) → rows[s]? = some st → iII σ ra rwl → rows.length ≤ M → rwl.length + bR d < 130 → uc + 1296 + bU d + 48 * L + 7 ≤ RC + 3 * rows.length → us + 570115 + bS d + 1460 + 8700 * L ≤ RS + hTri rwl.length + 1300 * rows.length → (∀ σ' v, zY σ σ' → v = some (.int 0) → M < (hAl L G mvs st d a rows).length → Q v σ') → (∀ σ' ra' rw' uc' us', hAll σ0 σ' L G mvs (hAl L G mvs st d a rows) n → zY σ σ' → iII σ' ra' rw' → rw'.length ≤ rwl.length + bR d → uc' + 3 * rows.length ≤ uc + bU d + 3 * (hAl L G mvs st d a rows).length → us' + hTri rwl.length + 1300 * rows.length ≤ us + bS d + hTri rw'.length + 1300 * (hAl L G mvs st d a rows).length → (hAl L G mvs st d a rows).length ≤ M → zAW l zmX6_explore { frames := 3, cells := RC, slots := RS, locals := 79 } 378 [(0, .ref 30), (1, .int mo), (2, .int (nI L)), (4, .int (nI s)), (5, .ref (ra'))] [] σ' uc' us' Q) → zAW l zmX6_explore { frames := 3, cells := RC, slots := RS, locals := 79 } 78 [(0, .ref 30), (1, .int mo), (2, .int (nI L)), (4, .int (nI s)), (5, .ref (ra)), (6, .int (nI a))] [] σ uc us Q := by
  intro d
  induction d with
  | zero =>
    intro a σ rows rwl ra uc us had hA hrl hst hra hrM hb hR1 hR2 KF KK
    have kM := hA.2.2.1.1
    refine zw_iload dX6_explore_78 rfl ?_
    refine zw_iload_n dX6_explore_80 rfl ?_
    refine zw_icmpge (tgt := 378) dX6_explore_81 (by decide) (fun c81 => ?_) (fun c81 => ?_)
    · exact zw_loc (lc' := [(0, .ref 30), (1, .int mo), (2, .int (nI L)), (4, .int (nI s)), (5, .ref (ra))]) (zsub_cons rfl (zsub_cons rfl (zsub_cons rfl (zsub_cons rfl (zsub_cons rfl zsub_nil))))) (KK σ ra rwl uc us hA (zY.rf _) hra (Nat.le_refl _) (Nat.le_refl _) (Nat.le_refl _) hrM)
    · exact absurd (nI_le (show L ≤ a by omega) (by omega)) c81
  | succ d ih =>
    intro a σ rows rwl ra uc us had hA hrl hst hra hrM hb hR1 hR2 KF KK
    obtain ⟨ms, m1, m2, m3⟩ := hmv.2 a (by omega)
    have e : hAl L G mvs st (d + 1) a rows = hAl L G mvs st d (a + 1) (hMl L G mvs st a (ms.drop 0) rows) := by
      show hAl L G mvs st d (a + 1) (hMl L G mvs st a ((mvs[a]?).getD []) rows) = _
      rw [m1]
      rfl
    rw [e] at KK KF
    have k1 := Nat.mul_le_mul_left (6 * d + 1) m2
    have k2 := Nat.mul_le_mul_left (4 + 30 * d) m2
    have k3 := Nat.mul_le_mul_left (15 + 120 * d) m2
    have b1 : bR (d + 1) = (6 * d + 1) * 6 + bR d := rfl
    have b2 : bU (d + 1) = (4 + 30 * d) * 6 + bU d := rfl
    have b3 : bS (d + 1) = (15 + 120 * d) * 6 + bS d := rfl
    rw [b1] at hb KK
    rw [b2] at hR1 KK
    rw [b3] at hR2 KK
    have kM := hA.2.2.1.1
    refine zw_iload dX6_explore_78 rfl ?_
    refine zw_iload_n dX6_explore_80 rfl ?_
    refine zw_icmpge (tgt := 378) dX6_explore_81 (by decide) (fun c81 => ?_) (fun c81 => ?_)
    · exact absurd c81 (nI_ge (show a < L by omega) (by omega))
    · refine zw_iconst (x := 0) dX6_explore_84 rfl ?_
      refine zw_istore dX6_explore_85 (by decide) rfl ?_
      refine zw_loc (lc' := [(0, .ref 30), (1, .int mo), (2, .int (nI L)), (4, .int (nI s)), (5, .ref (ra)), (6, .int (nI a)), (7, .int (nI 0))]) (zsub_cons rfl (zsub_cons rfl (zsub_cons rfl (zsub_cons rfl (zsub_cons rfl (zsub_cons rfl (zsub_cons rfl zsub_nil))))))) (lp_m (c := d) h5 hsl m1 (by omega) hmv m2 (fun o ho => ⟨m3 o ho, hpos a ms m1 o ho⟩) hmo hM (by omega) ms.length 0 σ rows rwl ra uc us (Nat.zero_add _) hA hrl hst hra hrM (by omega) (by omega) (by omega) (fun σ' v hy hv q => KF σ' v hy hv (Nat.lt_of_lt_of_le q (hAl_le hmv d (a + 1) _ (by omega)))) (fun σ' ra' rw' uc' us' hA' hy hra' f1 f2 f3 f4 => ?_))
      refine zw_iinc dX6_explore_372 rfl (by decide) rfl ?_
      refine zw_goto (tgt := 78) dX6_explore_375 (by decide) ?_
      refine zw_loc (lc' := [(0, .ref 30), (1, .int mo), (2, .int (nI L)), (4, .int (nI s)), (5, .ref (ra')), (6, .int (nI a + 1))]) (zsub_cons rfl (zsub_cons rfl (zsub_cons rfl (zsub_cons rfl (zsub_cons rfl (zsub_cons rfl zsub_nil)))))) ?_
      rw [nI_1]
      exact ih (a + 1) σ' _ rw' ra' uc' us' (by omega) hA' (hMl_all hsl _ _ hrl) (hMl_pre _ _ hst) hra' f4 (by omega) (by omega) (by omega) (fun σ2 v hy2 hv q => KF σ2 v (hy.tr hy2) hv q) (fun σ2 ra2 rw2 uc2 us2 g1 g2 g3 g4 g5 g6 g7 => KK σ2 ra2 rw2 uc2 us2 g1 (hy.tr g2) g3 (by omega) (by omega) (by omega) g7)
