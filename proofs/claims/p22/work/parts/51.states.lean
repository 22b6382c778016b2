/-! explore's loop over the states -/
def hBf (L : Nat) (G : List Int32) (mvs : List (List hMv)) : Nat → Nat → List (List Int32) → List (List Int32)
  | 0, _, rows => rows
  | d + 1, s, rows => match rows[s]? with
    | some st => hBf L G mvs d (s + 1) (hAl L G mvs st L 0 rows)
    | none => rows
theorem hBf_le {L : Nat} {G : List Int32} {mvs : List (List hMv)} (hm : hMvs L G mvs) : ∀ (d s : Nat) (rows : List (List Int32)), rows.length ≤ (hBf L G mvs d s rows).length
  | 0, _, _ => Nat.le_refl _
  | d + 1, s, rows => by
    show rows.length ≤ (match rows[s]? with
      | some st => hBf L G mvs d (s + 1) (hAl L G mvs st L 0 rows)
      | none => rows).length
    cases rows[s]? with
    | none => exact Nat.le_refl _
    | some st => exact Nat.le_trans (hAl_le (st := st) hm L 0 rows (Nat.zero_add _)) (hBf_le hm d (s + 1) _)
theorem bR_3 {L : Nat} (h : L ≤ 3) : bR L ≤ 126 := by
  rcases (show L = 0 ∨ L = 1 ∨ L = 2 ∨ L = 3 by omega) with rfl | rfl | rfl | rfl <;> decide
set_option maxHeartbeats 4000000 in
set_option maxRecDepth 100000 in
theorem lp_s {l : Launch} {σ0 : zS} {RC RS L M : Nat} {mo : Int32} {G : List Int32} {mvs : List (List hMv)} {Q : Option Value → zS → Prop} (h5 : L + G.length ≤ 5) (hL3 : L ≤ 3) (hmv : hMvs L G mvs) (hpos : ∀ (a : Nat) (ms : List hMv), mvs[a]? = some ms → ∀ o : hMv, o ∈ ms → 0 ≤ o.h) (hmo : mo = nI M) (hM : M ≤ 400) : ∀ (d s : Nat) (σ : zS) (rows : List (List Int32)) (uc us : Nat), s + d = M → hAll σ0 σ L G mvs rows s → (∀ r, r ∈ rows → r.length = L + G.length) → s ≤ rows.length → rows.length ≤ M → uc + 1296 + (2 + bU L) * d + 48 * L + 11 ≤ RC + 3 * rows.length → us + 570115 + (bS L + 8515 + 402) * d + 1460 + 8700 * L + 402 ≤ RS + 1300 * rows.length → (∀ σ' v, zY σ σ' → v = some (.int 0) → M < (hBf L G mvs d s rows).length → Q v σ') → (∀ σ' v, zY σ σ' → v = some (.int 1) → hAll σ0 σ' L G mvs (hBf L G mvs d s rows) (hBf L G mvs d s rows).length → (hBf L G mvs d s rows).length ≤ M → Q v σ') → zAW l zmX6_explore { frames := 3, cells := RC, slots := RS, locals := 79 } 59 [(0, .ref 30), (1, .int mo), (2, .int (nI L)), (4, .int (nI s))] [] σ uc us Q := by
  intro d
  induction d with
  | zero =>
    intro s σ rows uc us hsd hA hrl hsr hrM hR1 hR2 KF KT
    have kM := hA.2.2.1.1
    obtain ⟨sa, sg, sI⟩ := hA.2.2.1.2.2.1
    have es : s = rows.length := by omega
    refine zw_iload dX6_explore_59 rfl ?_
    refine zw_aload_n dX6_explore_61 rfl ?_
    refine zw_getR dX6_explore_62 zfX6_25 rfl kM (by decide) sg ?_
    refine zw_alen (t := 4) dX6_explore_65 sI.1 (by decide) ?_
    rw [sI.2.2.2.1]
    refine zw_icmpge (tgt := 443) dX6_explore_66 (by decide) (fun c66 => ?_) (fun c66 => ?_)
    · refine zw_iconst (x := 1) dX6_explore_443 rfl ?_
      refine zw_iret dX6_explore_444 rfl rfl ?_
      rw [es] at hA
      exact KT σ _ (zY.rf _) rfl hA hrM
    · exact absurd (nI_le (show rows.length ≤ s by omega) (by omega)) c66
  | succ d ih =>
    intro s σ rows uc us hsd hA hrl hsr hrM hR1 hR2 KF KT
    have kM := hA.2.2.1.1
    obtain ⟨sa, sg, sI⟩ := hA.2.2.1.2.2.1
    by_cases hs : s < rows.length
    · have hx : rows[s]? = some rows[s] := List.getElem?_eq_getElem hs
      have e : hBf L G mvs (d + 1) s rows = hBf L G mvs d (s + 1) (hAl L G mvs rows[s] L 0 rows) := by
        show (match rows[s]? with
          | some st => hBf L G mvs d (s + 1) (hAl L G mvs st L 0 rows)
          | none => rows) = _
        rw [hx]
      rw [e] at KF KT
      have e1 : (2 + bU L) * (d + 1) = (2 + bU L) * d + (2 + bU L) := Nat.mul_succ _ _
      have e2 : (bS L + 8515 + 402) * (d + 1) = (bS L + 8515 + 402) * d + (bS L + 8515 + 402) := Nat.mul_succ _ _
      rw [e1] at hR1
      rw [e2] at hR2
      have hb3 := bR_3 hL3
      have hsl := hrl rows[s] (List.getElem_mem hs)
      have x0 : zX σ (znA1 σ 4 0) := (zX.rf σ).A1 4 0
      have r0 : iII (znA1 σ 4 0) (zn σ) [] := ⟨by rw [zK_znA1, if_pos rfl], by have := hA.2.1.2.1; omega, Nat.lt_succ_self _, by rw [zL_znA1, if_pos rfl]; rfl, fun i x q => by cases i <;> cases q⟩
      have t0 : hTri ([] : List (List Int32)).length = 0 := rfl
      have n0 : ([] : List (List Int32)).length = 0 := rfl
      refine zw_iload dX6_explore_59 rfl ?_
      refine zw_aload_n dX6_explore_61 rfl ?_
      refine zw_getR dX6_explore_62 zfX6_25 rfl kM (by decide) sg ?_
      refine zw_alen (t := 4) dX6_explore_65 sI.1 (by decide) ?_
      rw [sI.2.2.2.1]
      refine zw_icmpge (tgt := 443) dX6_explore_66 (by decide) (fun c66 => ?_) (fun c66 => ?_)
      · exact absurd c66 (nI_ge hs (by omega))
      · refine zw_iconst (x := 0) dX6_explore_69 rfl ?_
        refine zw_newA (te := .int) (t := 4) (N := 0) dX6_explore_70 zclX6_24 (by decide) (by decide) rfl rfl (by omega) (show uc + 1 ≤ RC ∧ us + 0 ≤ RS by omega) ?_
        refine zw_astore dX6_explore_73 (by decide) rfl ?_
        refine zw_iconst (x := 0) dX6_explore_75 rfl ?_
        refine zw_istore dX6_explore_76 (by decide) rfl ?_
        refine zw_loc (lc' := [(0, .ref 30), (1, .int mo), (2, .int (nI L)), (4, .int (nI s)), (5, .ref (zn σ)), (6, .int (nI 0))]) (zsub_cons rfl (zsub_cons rfl (zsub_cons rfl (zsub_cons rfl (zsub_cons rfl (zsub_cons rfl zsub_nil)))))) (lp_a h5 hsl hmv hpos hmo hM L 0 (znA1 σ 4 0) rows [] (zn σ) _ _ (Nat.zero_add _) (hA.x x0) hrl hx r0 hrM (by rw [n0]; omega) (by omega) (by rw [t0]; omega) (fun σ' v hy hv q => KF σ' v (x0.y.tr hy) hv (Nat.lt_of_lt_of_le q (hBf_le hmv d (s + 1) _))) (fun σ' ra' rw' uc' us' hA' hy hra' f1 f2 f3 f4 => ?_))
        rw [n0] at f1
        rw [t0] at f3
        have tb := hTri_130 (show rw'.length < 130 by omega)
        have hal := hAl_le (st := rows[s]) hmv L 0 rows (Nat.zero_add _)
        exact lp_put hA' hra' (by omega) (by omega) (fun σ2 hA2 hy2 => ih (s + 1) σ2 _ _ _ (by omega) hA2 (hAl_all hsl _ _ _ hrl) (by omega) f4 (by omega) (by omega) (fun σ3 v hy3 hv q => KF σ3 v (((x0.y.tr hy).tr hy2).tr hy3) hv q) (fun σ3 v hy3 hv g1 g2 => KT σ3 v (((x0.y.tr hy).tr hy2).tr hy3) hv g1 g2))
    · have es : s = rows.length := by omega
      have e : hBf L G mvs (d + 1) s rows = rows := by
        show (match rows[s]? with
          | some st => hBf L G mvs d (s + 1) (hAl L G mvs st L 0 rows)
          | none => rows) = _
        rw [List.getElem?_eq_none (by omega)]
      rw [e] at KT
      refine zw_iload dX6_explore_59 rfl ?_
      refine zw_aload_n dX6_explore_61 rfl ?_
      refine zw_getR dX6_explore_62 zfX6_25 rfl kM (by decide) sg ?_
      refine zw_alen (t := 4) dX6_explore_65 sI.1 (by decide) ?_
      rw [sI.2.2.2.1]
      refine zw_icmpge (tgt := 443) dX6_explore_66 (by decide) (fun c66 => ?_) (fun c66 => ?_)
      · refine zw_iconst (x := 1) dX6_explore_443 rfl ?_
        refine zw_iret dX6_explore_444 rfl rfl ?_
        rw [es] at hA
        exact KT σ _ (zY.rf _) rfl hA hrM
      · exact absurd (nI_le (show rows.length ≤ s by omega) (by omega)) c66
