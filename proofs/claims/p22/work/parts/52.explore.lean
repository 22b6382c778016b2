/-! the hand's explore as a whole -/
def hB0 (L : Nat) (B : List Int32) : List Int32 := List.replicate L 0 ++ B
def hBg (σ : zS) (B : List Int32) : Prop := ∃ ba, zG σ 6 2 30 = some ba ∧ iI σ ba B
set_option maxHeartbeats 4000000 in
set_option maxRecDepth 100000 in
theorem lp_beg {l : Launch} {σ : zS} {RC RS L uc us : Nat} {mo : Int32} {G B : List Int32} {Q : Option Value → zS → Prop} (hgr : hGr σ L G) (hbg : hBg σ B) (hBl : B.length = G.length) (h5 : L + G.length ≤ 5) (KK : ∀ σ', zX σ σ' → iI σ' (zn σ) (hB0 L B) → zAW l zmX6_explore { frames := 3, cells := RC, slots := RS, locals := 79 } 48 [(0, .ref 30), (1, .int mo), (2, .int (nI L)), (3, .ref (zn σ))] [] σ' uc us Q) : ∀ (d v : Nat) (σ1 : zS), v + d = G.length → zX σ σ1 → (∃ xs, iI σ1 (zn σ) xs ∧ xs.length = L + G.length ∧ (∀ i, i < L → xs[i]? = some 0) ∧ ∀ j, j < v → xs[L + j]? = B[j]?) → zAW l zmX6_explore { frames := 3, cells := RC, slots := RS, locals := 79 } 19 [(0, .ref 30), (1, .int mo), (2, .int (nI L)), (3, .ref (zn σ)), (4, .int (nI v))] [] σ1 uc us Q := by
  intro d
  induction d with
  | zero =>
    intro v σ1 hvd hx hxs
    obtain ⟨kM, -, -, ga, uM, tM⟩ := hgr.x hx
    obtain ⟨ba, wB, bB⟩ := hbg
    have bM := bB.x hx
    have wM : zG σ1 6 2 30 = some ba := (((hx.2 30 hgr.2.1).2.2.2.2 6 2).2).trans wB
    obtain ⟨xs, iX, x1, x2, x3⟩ := hxs
    have ex : xs = hB0 L B := by
      refine List.ext_getElem? (fun i => ?_)
      unfold hB0
      by_cases e : i < L
      · rw [x2 i e, List.getElem?_append_left (by rw [List.length_replicate]; exact e), List.getElem?_replicate, if_pos e]
      · rw [List.getElem?_append_right (by rw [List.length_replicate]; omega), List.length_replicate]
        by_cases e2 : i - L < v
        · have := x3 (i - L) e2
          rw [show L + (i - L) = i by omega] at this
          exact this
        · rw [List.getElem?_eq_none (by omega), List.getElem?_eq_none (by omega)]
    rw [ex] at iX
    refine zw_iload dX6_explore_19 rfl ?_
    refine zw_aload_n dX6_explore_21 rfl ?_
    refine zw_getR dX6_explore_22 zfX6_13 rfl kM (by decide) uM ?_
    refine zw_alen (t := 0) dX6_explore_25 tM.1 (by decide) ?_
    rw [tM.2.2.2.1]
    refine zw_icmpge (tgt := 48) dX6_explore_26 (by decide) (fun c26 => ?_) (fun c26 => ?_)
    · exact zw_loc (lc' := [(0, .ref 30), (1, .int mo), (2, .int (nI L)), (3, .ref (zn σ))]) (zsub_cons rfl (zsub_cons rfl (zsub_cons rfl (zsub_cons rfl zsub_nil)))) (KK σ1 hx iX)
    · exact absurd (nI_le (show G.length ≤ v by omega) (by omega)) c26
  | succ d ih =>
    intro v σ1 hvd hx hxs
    obtain ⟨kM, -, -, ga, uM, tM⟩ := hgr.x hx
    obtain ⟨ba, wB, bB⟩ := hbg
    have bM := bB.x hx
    have wM : zG σ1 6 2 30 = some ba := (((hx.2 30 hgr.2.1).2.2.2.2 6 2).2).trans wB
    obtain ⟨xs, iX, x1, x2, x3⟩ := hxs
    have hv : v < B.length := by omega
    have hb : B[v]? = some B[v] := List.getElem?_eq_getElem hv
    have hbv := bM.2.2.2.2 v _ hb
    refine zw_iload dX6_explore_19 rfl ?_
    refine zw_aload_n dX6_explore_21 rfl ?_
    refine zw_getR dX6_explore_22 zfX6_13 rfl kM (by decide) uM ?_
    refine zw_alen (t := 0) dX6_explore_25 tM.1 (by decide) ?_
    rw [tM.2.2.2.1]
    refine zw_icmpge (tgt := 48) dX6_explore_26 (by decide) (fun c26 => ?_) (fun c26 => ?_)
    · exact absurd c26 (nI_ge (show v < G.length by omega) (by omega))
    · refine zw_aload_n dX6_explore_29 rfl ?_
      refine zw_iload_n dX6_explore_30 rfl ?_
      refine zw_iload dX6_explore_31 rfl ?_
      refine zw_iadd dX6_explore_33 ?_
      rw [nI_add]
      refine zw_aload_n dX6_explore_34 rfl ?_
      refine zw_getR dX6_explore_35 zfX6_16 rfl kM (by decide) wM ?_
      refine zw_iload dX6_explore_38 rfl ?_
      refine zw_iaload dX6_explore_40 bM.1 (zin_of bM.2.2.2.1 (vp_in_nI hv (by omega))) ?_
      rw [nI_clamp (show v < 2 ^ 31 by omega), hbv]
      refine zw_iastore dX6_explore_41 iX.1 iX.2.1 (zin_of iX.2.2.2.1 (vp_in_nI (by omega) (by omega))) ?_
      rw [nI_clamp (show L + v < 2 ^ 31 by omega)]
      refine zw_iinc dX6_explore_42 rfl (by decide) rfl ?_
      refine zw_goto (tgt := 19) dX6_explore_45 (by decide) ?_
      refine zw_loc (lc' := [(0, .ref 30), (1, .int mo), (2, .int (nI L)), (3, .ref (zn σ)), (4, .int (nI v + 1))]) (zsub_cons rfl (zsub_cons rfl (zsub_cons rfl (zsub_cons rfl (zsub_cons rfl zsub_nil))))) ?_
      rw [nI_1]
      refine ih (v + 1) _ (by omega) (hx.I (Nat.le_refl _)) ⟨xs.set (L + v) B[v], iX.set _ _, by rw [List.length_set]; exact x1, fun i hi => ?_, fun j hj => ?_⟩
      · rw [List.getElem?_set, if_neg (by omega)]
        exact x2 i hi
      · rw [List.getElem?_set]
        by_cases e : L + v = L + j
        · rw [if_pos e, if_pos (by omega), show j = v by omega, hb]
        · rw [if_neg e]
          exact x3 j (by omega)
set_option maxHeartbeats 4000000 in
set_option maxRecDepth 100000 in
theorem c_X6_explore {l : Launch} {σ : zS} {L M RC RS : Nat} {mo : Int32} {G B : List Int32} {mvs : List (List hMv)} (hA : hAll σ σ L G mvs [] 0) (hbg : hBg σ B) (hBl : B.length = G.length) (h5 : L + G.length ≤ 5) (hL3 : L ≤ 3) (hmv : hMvs L G mvs) (hpos : ∀ (a : Nat) (ms : List hMv), mvs[a]? = some ms → ∀ o : hMv, o ∈ ms → 0 ≤ o.h) (hmo : mo = nI M) (hM : M ≤ 400) (hM1 : 1 ≤ M)
    (hR1 : 4 + 1296 + (2 + bU L) * M + 48 * L + 11 ≤ RC + 3) (hR2 : 8 + 570115 + (bS L + 8515 + 402) * M + 1460 + 8700 * L + 402 ≤ RS + 1300) (hR3 : 4 ≤ RC ∧ 8 ≤ RS) :
    zAM l zmX6_explore 3 79 RC RS [.ref 30, .int mo] σ (fun v σ' => zY σ σ' ∧ ((v = some (.int 0) ∧ M < (hBf L G mvs M 0 [hB0 L B]).length) ∨ (v = some (.int 1) ∧ (hBf L G mvs M 0 [hB0 L B]).length ≤ M ∧ hAll σ σ' L G mvs (hBf L G mvs M 0 [hB0 L B]) (hBf L G mvs M 0 [hB0 L B]).length))) := by
  refine zAM.of (by decide +kernel) (Nat.le_of_ble_eq_true rfl) ?_
  have hgr := hA.2.1
  obtain ⟨kM, h30, ⟨la, ls, gM, lM, lla⟩, ga, uM, tM⟩ := id hgr
  refine zw_aload_n dX6_explore_0 rfl ?_
  refine zw_getR dX6_explore_1 zfX6_7 rfl kM (by decide) gM ?_
  refine zw_alen (t := 0) dX6_explore_4 lM.1 (by decide) ?_
  rw [lM.2.2.2.1, lla]
  refine zw_istore_n dX6_explore_5 (by decide) rfl ?_
  refine zw_iload_n dX6_explore_6 rfl ?_
  refine zw_aload_n dX6_explore_7 rfl ?_
  refine zw_getR dX6_explore_8 zfX6_13 rfl kM (by decide) uM ?_
  refine zw_alen (t := 0) dX6_explore_11 tM.1 (by decide) ?_
  rw [tM.2.2.2.1]
  refine zw_iadd dX6_explore_12 ?_
  rw [nI_add]
  refine zw_newI (N := L + G.length) dX6_explore_13 rfl (by omega) ⟨show 0 + 1 ≤ RC by omega, show 0 + (L + G.length) ≤ RS by omega⟩ ?_
  refine zw_astore_n dX6_explore_15 (by decide) rfl ?_
  refine zw_iconst (x := 0) dX6_explore_16 rfl ?_
  refine zw_istore dX6_explore_17 (by decide) rfl ?_
  refine zw_loc (lc' := [(0, .ref 30), (1, .int mo), (2, .int (nI L)), (3, .ref (zn σ)), (4, .int (nI 0))]) (zsub_cons rfl (zsub_cons rfl (zsub_cons rfl (zsub_cons rfl (zsub_cons rfl zsub_nil))))) (lp_beg hgr hbg hBl h5 ?_ G.length 0 _ (Nat.zero_add _) ((zX.rf σ).A1 0 _) ⟨List.replicate (L + G.length) 0, ⟨by rw [zK_znA1, if_pos rfl], by omega, Nat.lt_succ_self _, by rw [zL_znA1, if_pos rfl, List.length_replicate], fun i x q => ?_⟩, List.length_replicate, fun i hi => by rw [List.getElem?_replicate, if_pos (by omega)], fun j q => absurd q (Nat.not_lt_zero _)⟩)
  rotate_left
  · rw [zI_znA1, if_pos rfl]
    rw [List.getElem?_replicate] at q
    by_cases e : i < L + G.length
    · rw [if_pos e] at q; exact Option.some.inj q
    · rw [if_neg e] at q; cases q
  intro σ1 x1 i1
  have hA1 := hA.x x1
  have k1 := hA1.2.2.1.1
  have hbl : (hB0 L B).length = L + G.length := by unfold hB0; rw [List.length_append, List.length_replicate, hBl]
  refine zw_aload_n dX6_explore_48 rfl ?_
  refine zw_aload_n dX6_explore_49 rfl ?_
  refine zw_iconst (x := -1) dX6_explore_50 rfl ?_
  refine zw_iconst (x := -1) dX6_explore_51 rfl ?_
  refine zw_callV (y' := zmX6_number) dX6_explore_52 zlX6_58 zmX6_number_ok k1 (by decide) rfl (c_X6_number_new hA1.2.2.1 i1 (show ([] : List (List Int32)).length < 1000000 by decide) (by omega) (fun r hr => absurd hr List.not_mem_nil) (hFx_none List.not_mem_nil)) rfl rfl (Nat.le_of_ble_eq_true rfl) ⟨Nat.le_of_ble_eq_true rfl, Nat.le_of_ble_eq_true rfl⟩ ⟨show 0 + 1 + 3 ≤ RC by omega, show 0 + (L + G.length) + 3 * (([] : List (List Int32)).length + 1) ≤ RS by simp only [List.length_nil]; omega⟩ ?_
  intro v52 s52 q52
  obtain ⟨rfl, y2, n2, d2, g2⟩ := q52
  refine zw_pop dX6_explore_55 rfl ?_
  refine zw_iconst (x := 0) dX6_explore_56 rfl ?_
  refine zw_istore dX6_explore_57 (by decide) rfl ?_
  have hA2 : hAll σ s52 L G mvs [hB0 L B] 0 := hA1.num y2 d2 g2
  refine zw_loc (lc' := [(0, .ref 30), (1, .int mo), (2, .int (nI L)), (4, .int (nI 0))]) (zsub_cons rfl (zsub_cons rfl (zsub_cons rfl (zsub_cons rfl zsub_nil)))) ?_
  have kq := lp_s (l := l) (σ0 := σ) (RC := RC) (RS := RS) (Q := fun v σ' => zY σ σ' ∧ ((v = some (.int 0) ∧ M < (hBf L G mvs M 0 [hB0 L B]).length) ∨ (v = some (.int 1) ∧ (hBf L G mvs M 0 [hB0 L B]).length ≤ M ∧ hAll σ σ' L G mvs (hBf L G mvs M 0 [hB0 L B]) (hBf L G mvs M 0 [hB0 L B]).length))) h5 hL3 hmv hpos hmo hM M 0 s52 [hB0 L B] (0 + 1 + 3) (0 + (L + G.length) + 3 * (([] : List (List Int32)).length + 1)) (Nat.zero_add _) hA2 (fun r hr => by rw [List.mem_singleton.mp hr]; exact hbl) (Nat.zero_le _) (by simpa using hM1) (by simp only [List.length_singleton]; omega) (by simp only [List.length_singleton, List.length_nil]; omega) (fun σ' v hy hv q => ⟨(x1.y.tr y2).tr hy, Or.inl ⟨hv, q⟩⟩) (fun σ' v hy hv g1 g2 => ⟨(x1.y.tr y2).tr hy, Or.inr ⟨hv, g2, g1⟩⟩)
  exact kq
