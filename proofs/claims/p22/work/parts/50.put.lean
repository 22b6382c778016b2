/-! explore, the steps of a state put away -/
theorem hHd.G5 {σ : zS} {x : Option Nat} {rows : List (List Int32)} (h : hHd σ rows) : hHd (zsG σ 6 5 30 x) rows := by
  obtain ⟨h1, h2, ⟨sa, h3, h4⟩, h5⟩ := h
  refine ⟨h1, h2, ⟨sa, by rw [zG_zsG, if_neg (by decide)]; exact h3, h4⟩, fun k hk => ?_⟩
  obtain ⟨fa, fr, c1, c2, c3⟩ := h5 k hk
  exact ⟨fa, fr, by rw [zG_zsG, if_neg (by omega)]; exact c1, c2, c3⟩
set_option maxHeartbeats 4000000 in
set_option maxRecDepth 100000 in
theorem lp_all {l : Launch} {σ0 σ : zS} {RC RS L n s ra ta uc us : Nat} {mo : Int32} {G : List Int32} {mvs : List (List hMv)} {rows rwl : List (List Int32)} {stl : List (List (List Int32))} {Q : Option Value → zS → Prop} (hA : hAll σ0 σ L G mvs rows n) (hra : iII σ ra rwl) (tg : zG σ 6 5 30 = some ta) (tI : iIII σ ta stl) (hln : stl.length = n) (hn : n < 1000) (KK : ∀ σ', hAll σ0 σ' L G mvs rows (n + 1) → zY σ σ' → zAW l zmX6_explore { frames := 3, cells := RC, slots := RS, locals := 79 } 59 [(0, .ref 30), (1, .int mo), (2, .int (nI L)), (4, .int (nI (s + 1)))] [] σ' uc us Q) : ∀ (d k : Nat) (σ1 : zS), k + d = stl.length → xMoR σ σ1 5 (stl.length + 1) (fun b x => iII σ b x) stl k → zAW l zmX6_explore { frames := 3, cells := RC, slots := RS, locals := 79 } 393 [(0, .ref 30), (1, .int mo), (2, .int (nI L)), (4, .int (nI s)), (5, .ref ra), (6, .ref (zn σ)), (7, .int (nI k))] [] σ1 uc us Q := by
  have h30 := hA.2.1.2.1
  have hzp : 0 < zn σ := by omega
  intro d
  induction d with
  | zero =>
    intro k σ1 hkd hm
    have hA1 := hA.x hm.1
    have kM := hA1.2.2.1.1
    have tX := iIII.x tI hm.1
    have raX := iII.x hra hm.1
    have tgX : zG σ1 6 5 30 = some ta := (((hm.1.2 30 h30).2.2.2.2 6 5).2).trans tg
    refine zw_iload dX6_explore_393 rfl ?_
    refine zw_aload_n dX6_explore_395 rfl ?_
    refine zw_getR dX6_explore_396 zfX6_30 rfl kM (by decide) tgX ?_
    refine zw_alen (t := 5) dX6_explore_399 tX.1 (by decide) ?_
    rw [tX.2.2.2.1]
    refine zw_icmpge (tgt := 421) dX6_explore_400 (by decide) (fun c400 => ?_) (fun c400 => ?_)
    · refine zw_aload dX6_explore_421 rfl ?_
      refine zw_aload_n dX6_explore_423 rfl ?_
      refine zw_getR dX6_explore_424 zfX6_30 rfl kM (by decide) tgX ?_
      refine zw_alen (t := 5) dX6_explore_427 tX.1 (by decide) ?_
      rw [tX.2.2.2.1]
      refine zw_aload dX6_explore_428 rfl ?_
      refine zw_aastoreA (t := 5) (tv := 4) (v := ra) dX6_explore_430 hm.2.2.1 (by decide) rfl zno_4 raX.1 raX.2.1 (by decide) (zin_of hm.2.2.2.1 (vp_in_nI (by omega) (by omega))) ?_
      rw [nI_clamp (show stl.length < 2 ^ 31 by omega)]
      obtain rfl : k = stl.length := by omega
      obtain ⟨x2, n2, r2⟩ := xMoR_end hm hzp hra
      generalize zsR σ1 (zn σ) stl.length (some ra) = σ2 at x2 n2 r2 ⊢
      have hA2 := hA.x x2
      have k2 := hA2.2.2.1.1
      refine zw_aload_n dX6_explore_431 rfl ?_
      refine zw_aload dX6_explore_432 rfl ?_
      refine zw_putO dX6_explore_434 zfX6_30 rfl (Or.inl rfl) k2 (by decide) ?_
      refine zw_iinc dX6_explore_437 rfl (by decide) rfl ?_
      refine zw_goto (tgt := 59) dX6_explore_440 (by decide) ?_
      have y3 : zY σ (zsG σ2 6 5 30 (some (zn σ))) := x2.y.G (by decide)
      refine zw_loc (lc' := [(0, .ref 30), (1, .int mo), (2, .int (nI L)), (4, .int (nI s + 1))]) (zsub_cons rfl (zsub_cons rfl (zsub_cons rfl (zsub_cons rfl zsub_nil)))) ?_
      rw [nI_1]
      refine KK _ ⟨hA.1.tr y3, hA.2.1.y y3, hA2.2.2.1.G5, hA.2.2.2.1.y h30 y3, zn σ, stl ++ [rwl], by rw [zG_zsG, if_pos ⟨rfl, rfl, rfl⟩], iR.mono (show iR (zsG σ2 6 5 30 (some (zn σ))) 5 (zn σ) (fun b x => iII σ b x) (stl ++ [rwl]) from r2) (fun b x q => iII.y q y3), by rw [List.length_append, hln]; rfl⟩ y3
    · exact absurd (nI_le (show stl.length ≤ k by omega) (by omega)) c400
  | succ d ih =>
    intro k σ1 hkd hm
    have hA1 := hA.x hm.1
    have kM := hA1.2.2.1.1
    have tX := iIII.x tI hm.1
    have raX := iII.x hra hm.1
    have tgX : zG σ1 6 5 30 = some ta := (((hm.1.2 30 h30).2.2.2.2 6 5).2).trans tg
    have hk : k < stl.length := by omega
    have hx : stl[k]? = some stl[k] := List.getElem?_eq_getElem hk
    obtain ⟨b, hb1, hb2⟩ := tI.2.2.2.2 k _ hx
    have hb3 : zR σ1 ta k = some b := by rw [(hm.1.2 ta tI.2.2.1).2.2.2.1]; exact hb1
    have hbX := iII.x hb2 hm.1
    refine zw_iload dX6_explore_393 rfl ?_
    refine zw_aload_n dX6_explore_395 rfl ?_
    refine zw_getR dX6_explore_396 zfX6_30 rfl kM (by decide) tgX ?_
    refine zw_alen (t := 5) dX6_explore_399 tX.1 (by decide) ?_
    rw [tX.2.2.2.1]
    refine zw_icmpge (tgt := 421) dX6_explore_400 (by decide) (fun c400 => ?_) (fun c400 => ?_)
    · exact absurd c400 (nI_ge hk (by omega))
    · refine zw_aload dX6_explore_403 rfl ?_
      refine zw_iload dX6_explore_405 rfl ?_
      refine zw_aload_n dX6_explore_407 rfl ?_
      refine zw_getR dX6_explore_408 zfX6_30 rfl kM (by decide) tgX ?_
      refine zw_iload dX6_explore_411 rfl ?_
      refine zw_aaload (t := 5) dX6_explore_413 tX.1 rfl (by decide) (zin_of tX.2.2.2.1 (vp_in_nI (by omega) (by omega))) ?_
      rw [nI_clamp (show k < 2 ^ 31 by omega), hb3]
      refine zw_aastoreA (t := 5) (tv := 4) (v := b) dX6_explore_414 hm.2.2.1 (by decide) rfl zno_4 hbX.1 hbX.2.1 (by decide) (zin_of hm.2.2.2.1 (vp_in_nI (by omega) (by omega))) ?_
      rw [nI_clamp (show k < 2 ^ 31 by omega)]
      refine zw_iinc dX6_explore_415 rfl (by decide) rfl ?_
      refine zw_goto (tgt := 393) dX6_explore_418 (by decide) ?_
      refine zw_loc (lc' := [(0, .ref 30), (1, .int mo), (2, .int (nI L)), (4, .int (nI s)), (5, .ref ra), (6, .ref (zn σ)), (7, .int (nI k + 1))]) (zsub_cons rfl (zsub_cons rfl (zsub_cons rfl (zsub_cons rfl (zsub_cons rfl (zsub_cons rfl (zsub_cons rfl zsub_nil))))))) ?_
      rw [nI_1]
      exact ih (k + 1) _ (by omega) (xMoR_step hm hx hb2)
set_option maxHeartbeats 4000000 in
set_option maxRecDepth 100000 in
theorem lp_put {l : Launch} {σ0 σ : zS} {RC RS L n s ra uc us : Nat} {mo : Int32} {G : List Int32} {mvs : List (List hMv)} {rows rwl : List (List Int32)} {Q : Option Value → zS → Prop} (hA : hAll σ0 σ L G mvs rows n) (hra : iII σ ra rwl) (hn : n < 1000) (hR : uc + 1 ≤ RC ∧ us + (n + 1) ≤ RS) (KK : ∀ σ', hAll σ0 σ' L G mvs rows (n + 1) → zY σ σ' → zAW l zmX6_explore { frames := 3, cells := RC, slots := RS, locals := 79 } 59 [(0, .ref 30), (1, .int mo), (2, .int (nI L)), (4, .int (nI (s + 1)))] [] σ' (uc + 1) (us + (n + 1)) Q) : zAW l zmX6_explore { frames := 3, cells := RC, slots := RS, locals := 79 } 378 [(0, .ref 30), (1, .int mo), (2, .int (nI L)), (4, .int (nI s)), (5, .ref (ra))] [] σ uc us Q := by
  obtain ⟨ta, stl, tgX, tX, hln⟩ := hA.2.2.2.2
  subst hln
  have kM := hA.2.2.1.1
  refine zw_aload_n dX6_explore_378 rfl ?_
  refine zw_getR dX6_explore_379 zfX6_30 rfl kM (by decide) tgX ?_
  refine zw_alen (t := 5) dX6_explore_382 tX.1 (by decide) ?_
  rw [tX.2.2.2.1]
  refine zw_iconst (x := 1) dX6_explore_383 rfl ?_
  refine zw_iadd dX6_explore_384 ?_
  rw [nI_1]
  refine zw_newA (te := .array .int) (t := 5) (N := stl.length + 1) dX6_explore_385 zclX6_29 (by decide) (by decide) rfl rfl (by omega) hR ?_
  refine zw_astore dX6_explore_388 (by decide) rfl ?_
  refine zw_iconst (x := 0) dX6_explore_390 rfl ?_
  refine zw_istore dX6_explore_391 (by decide) rfl ?_
  refine zw_loc (lc' := [(0, .ref 30), (1, .int mo), (2, .int (nI L)), (4, .int (nI s)), (5, .ref ra), (6, .ref (zn σ)), (7, .int (nI 0))]) (zsub_cons rfl (zsub_cons rfl (zsub_cons rfl (zsub_cons rfl (zsub_cons rfl (zsub_cons rfl (zsub_cons rfl zsub_nil))))))) (lp_all hA hra tgX tX rfl hn KK stl.length 0 _ (Nat.zero_add _) ⟨(zX.rf σ).A1 5 _, rfl, by rw [zK_znA1, if_pos rfl], by rw [zL_znA1, if_pos rfl], fun j x q => absurd q (Nat.not_lt_zero _)⟩)
