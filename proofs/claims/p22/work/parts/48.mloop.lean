/-! explore's loops over moves and processes -/
def hMl (L : Nat) (G : List Int32) (mvs : List (List hMv)) (st : List Int32) (a : Nat) : List hMv → List (List Int32) → List (List Int32)
  | [], rows => rows
  | o :: l, rows => hMl L G mvs st a l (hCh L G mvs st a o rows)
theorem hMl_le {L a : Nat} {G st : List Int32} {mvs : List (List hMv)} (hm : hMvs L G mvs) (ha : a < L) : ∀ (l : List hMv) (rows : List (List Int32)), rows.length ≤ (hMl L G mvs st a l rows).length
  | [], _ => Nat.le_refl _
  | o :: l, rows => Nat.le_trans (hCh_le (st := st) (one := o) (rows := rows) hm ha).1 (hMl_le hm ha l _)
theorem hMl_all {L a k : Nat} {G st : List Int32} {mvs : List (List hMv)} (hs : st.length = k) : ∀ (l : List hMv) (rows : List (List Int32)), (∀ r, r ∈ rows → r.length = k) → ∀ r, r ∈ hMl L G mvs st a l rows → r.length = k
  | [], _, h => h
  | _ :: l, _, h => hMl_all hs l _ (hCh_all h hs)
theorem hMl_pre {L a i : Nat} {G st r : List Int32} {mvs : List (List hMv)} : ∀ (l : List hMv) (rows : List (List Int32)), rows[i]? = some r → (hMl L G mvs st a l rows)[i]? = some r
  | [], _, h => h
  | _ :: l, _, h => hMl_pre l _ (hCh_pre h)
theorem hTri_130 {k : Nat} (h : k < 130) : hTri k ≤ 8515 := Nat.le_trans (hTri_mono (show k ≤ 130 by omega)) (by decide +kernel)
set_option maxHeartbeats 4000000 in
set_option maxRecDepth 100000 in
theorem lp_m {l : Launch} {σ0 : zS} {RC RS L n s a c M : Nat} {mo : Int32} {G st : List Int32} {mvs : List (List hMv)} {ms : List hMv} {Q : Option Value → zS → Prop} (h5 : L + G.length ≤ 5) (hsl : st.length = L + G.length) (hma : mvs[a]? = some ms) (haL : a < L) (hmv : hMvs L G mvs) (hn3 : ms.length ≤ 6) (hok : ∀ o, o ∈ ms → hMok L G o ∧ 0 ≤ o.h) (hmo : mo = nI M) (hM : M ≤ 400) (hc : L - (a + 1) = c) : ∀ (d m : Nat) (σ : zS) (rows rwl : List (List Int32)) (ra uc us : Nat), m + d = ms.length → hAll σ0 σ L G mvs rows n → (∀ r, r ∈ rows → r.length = L + G.length) → rows[s]? = some st → iII σ ra rwl → rows.length ≤ M → rwl.length + (6 * c + 1) * d < 130 → uc + 1296 + (4 + 30 * c) * d + 48 * c + 7 ≤ RC + 3 * rows.length → us + 570115 + (15 + 120 * c) * d + 1460 + 8700 * c ≤ RS + hTri rwl.length + 1300 * rows.length → (∀ σ' v, zY σ σ' → v = some (.int 0) → M < (hMl L G mvs st a (ms.drop m) rows).length → Q v σ') → (∀ σ' ra' rw' uc' us', hAll σ0 σ' L G mvs (hMl L G mvs st a (ms.drop m) rows) n → zY σ σ' → iII σ' ra' rw' → rw'.length ≤ rwl.length + (6 * c + 1) * d → uc' + 3 * rows.length ≤ uc + (4 + 30 * c) * d + 3 * (hMl L G mvs st a (ms.drop m) rows).length → us' + hTri rwl.length + 1300 * rows.length ≤ us + (15 + 120 * c) * d + hTri rw'.length + 1300 * (hMl L G mvs st a (ms.drop m) rows).length → (hMl L G mvs st a (ms.drop m) rows).length ≤ M → zAW l zmX6_explore { frames := 3, cells := RC, slots := RS, locals := 79 } 372 [(0, .ref 30), (1, .int mo), (2, .int (nI L)), (4, .int (nI s)), (5, .ref (ra')), (6, .int (nI a))] [] σ' uc' us' Q) → zAW l zmX6_explore { frames := 3, cells := RC, slots := RS, locals := 79 } 87 [(0, .ref 30), (1, .int mo), (2, .int (nI L)), (4, .int (nI s)), (5, .ref (ra)), (6, .int (nI a)), (7, .int (nI m))] [] σ uc us Q := by
  intro d
  induction d with
  | zero =>
    intro m σ rows rwl ra uc us hmd hA hrl hst hra hrM hb hR1 hR2 KF KK
    have e : hMl L G mvs st a (ms.drop m) rows = rows := by rw [List.drop_eq_nil_of_le (by omega)]; rfl
    rw [e] at KK
    have kM := hA.2.2.1.1
    obtain ⟨ma, mg, mI⟩ := hA.2.2.2.1
    obtain ⟨mb, mb1, mb2⟩ := mI.2.2.2.2 a _ hma
    have hbm := (List.getElem?_eq_some_iff.mp hma).1
    have hn4 := hmv.1
    refine zw_iload dX6_explore_87 rfl ?_
    refine zw_aload_n dX6_explore_89 rfl ?_
    refine zw_getR dX6_explore_90 zfX6_21 rfl kM (by decide) mg ?_
    refine zw_iload dX6_explore_93 rfl ?_
    refine zw_aaload (t := 5) dX6_explore_95 mI.1 rfl (by decide) (zin_of mI.2.2.2.1 (vp_in_nI hbm (by omega))) ?_
    rw [nI_clamp (show a < 2 ^ 31 by omega), mb1]
    refine zw_alen (t := 4) dX6_explore_96 mb2.1 (by decide) ?_
    rw [mb2.2.2.2.1, List.length_map]
    refine zw_icmpge (tgt := 372) dX6_explore_97 (by decide) (fun c97 => ?_) (fun c97 => ?_)
    · exact zw_loc (lc' := [(0, .ref 30), (1, .int mo), (2, .int (nI L)), (4, .int (nI s)), (5, .ref (ra)), (6, .int (nI a))]) (zsub_cons rfl (zsub_cons rfl (zsub_cons rfl (zsub_cons rfl (zsub_cons rfl (zsub_cons rfl zsub_nil)))))) (KK σ ra rwl uc us hA (zY.rf _) hra (Nat.le_refl _) (Nat.le_refl _) (Nat.le_refl _) hrM)
    · exact absurd (nI_le (show ms.length ≤ m by omega) (by omega)) c97
  | succ d ih =>
    intro m σ rows rwl ra uc us hmd hA hrl hst hra hrM hb hR1 hR2 KF KK
    have hkl : m < ms.length := by omega
    have hk : ms[m]? = some ms[m] := List.getElem?_eq_getElem hkl
    have e : hMl L G mvs st a (ms.drop m) rows = hMl L G mvs st a (ms.drop (m + 1)) (hCh L G mvs st a ms[m] rows) := by rw [List.drop_eq_getElem_cons hkl]; rfl
    rw [e] at KK KF
    have e1 : (6 * c + 1) * (d + 1) = (6 * c + 1) * d + (6 * c + 1) := Nat.mul_succ _ _
    have e2 : (4 + 30 * c) * (d + 1) = (4 + 30 * c) * d + (4 + 30 * c) := Nat.mul_succ _ _
    have e3 : (15 + 120 * c) * (d + 1) = (15 + 120 * c) * d + (15 + 120 * c) := Nat.mul_succ _ _
    rw [e1] at hb KK
    rw [e2] at hR1 KK
    rw [e3] at hR2 KK
    obtain ⟨ok1, ok2⟩ := hok _ (List.getElem_mem hkl)
    have tb := hTri_130 (show rwl.length < 130 by omega)
    have kM := hA.2.2.1.1
    obtain ⟨ma, mg, mI⟩ := hA.2.2.2.1
    obtain ⟨mb, mb1, mb2⟩ := mI.2.2.2.2 a _ hma
    have hbm := (List.getElem?_eq_some_iff.mp hma).1
    have hn4 := hmv.1
    refine zw_iload dX6_explore_87 rfl ?_
    refine zw_aload_n dX6_explore_89 rfl ?_
    refine zw_getR dX6_explore_90 zfX6_21 rfl kM (by decide) mg ?_
    refine zw_iload dX6_explore_93 rfl ?_
    refine zw_aaload (t := 5) dX6_explore_95 mI.1 rfl (by decide) (zin_of mI.2.2.2.1 (vp_in_nI hbm (by omega))) ?_
    rw [nI_clamp (show a < 2 ^ 31 by omega), mb1]
    refine zw_alen (t := 4) dX6_explore_96 mb2.1 (by decide) ?_
    rw [mb2.2.2.2.1, List.length_map]
    refine zw_icmpge (tgt := 372) dX6_explore_97 (by decide) (fun c97 => ?_) (fun c97 => ?_)
    · exact absurd c97 (nI_ge hkl (by omega))
    · refine zw_loc (lc' := [(0, .ref 30), (1, .int mo), (2, .int (nI L)), (4, .int (nI s)), (5, .ref (ra)), (6, .int (nI a)), (7, .int (nI m))]) (zsub_cons rfl (zsub_cons rfl (zsub_cons rfl (zsub_cons rfl (zsub_cons rfl (zsub_cons rfl (zsub_cons rfl zsub_nil))))))) (lp_ch hA hrl h5 hst hra hma hk haL hmv ok1 (by omega) (by omega) hn3 (by omega) hmo (by omega) hrM ok2 (fun σ' v hy hv q => KF σ' v hy hv (Nat.lt_of_lt_of_le q (hMl_le hmv haL _ _))) (fun σ' ra' rw' uc' us' hA' hy hra' f1 f2 f3 f4 => ?_))
      refine zw_iinc dX6_explore_366 rfl (by decide) rfl ?_
      refine zw_goto (tgt := 87) dX6_explore_369 (by decide) ?_
      refine zw_loc (lc' := [(0, .ref 30), (1, .int mo), (2, .int (nI L)), (4, .int (nI s)), (5, .ref (ra')), (6, .int (nI a)), (7, .int (nI m + 1))]) (zsub_cons rfl (zsub_cons rfl (zsub_cons rfl (zsub_cons rfl (zsub_cons rfl (zsub_cons rfl (zsub_cons rfl zsub_nil))))))) ?_
      rw [nI_1]
      exact ih (m + 1) σ' _ rw' ra' uc' us' (by omega) hA' (hCh_all hrl hsl) (hCh_pre hst) hra' f4 (by omega) (by omega) (by omega) (fun σ2 v hy2 hv q => KF σ2 v (hy.tr hy2) hv q) (fun σ2 ra2 rw2 uc2 us2 g1 g2 g3 g4 g5 g6 g7 => KK σ2 ra2 rw2 uc2 us2 g1 (hy.tr g2) g3 (by omega) (by omega) (by omega) g7)
