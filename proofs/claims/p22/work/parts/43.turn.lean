/-! one turn of explore's innermost loop -/
theorem zY.I {σ0 σ : zS} (h : zY σ0 σ) {a i : Nat} {x : Int32} (ha : zn σ0 ≤ a) : zY σ0 (zsI σ a i x) := by
  refine ⟨h.1, fun b hb => ?_⟩
  obtain ⟨c1, c2, c3, c4, c5⟩ := h.2 b hb
  refine ⟨c1, c2, funext fun j => ?_, c4, c5⟩
  rw [zI_zsI, if_neg (fun q => by have := q.1; omega), c3]
theorem iI_new {σ : zS} (hp : 0 < zn σ) : iI (znA1 σ 0 5) (zn σ) [0, 0, 0, 0, 0] := by
  refine ⟨by rw [zK_znA1, if_pos rfl], hp, Nat.lt_succ_self _, by rw [zL_znA1, if_pos rfl]; rfl, fun i x q => ?_⟩
  rw [zI_znA1, if_pos rfl]
  have hi := (List.getElem?_eq_some_iff.mp q).1
  rcases (show i = 0 ∨ i = 1 ∨ i = 2 ∨ i = 3 ∨ i = 4 by simp at hi; omega) with rfl | rfl | rfl | rfl | rfl <;> exact Option.some.inj q
set_option maxHeartbeats 4000000 in
set_option maxRecDepth 100000 in
theorem lp_k_1 {l : Launch} {σ0 σ : zS} {RC RS L n s a m b k be ob ra uc us : Nat} {mo : Int32} {G st beh : List Int32} {mvs : List (List hMv)} {ms : List hMv} {one o : hMv} {rows rwl : List (List Int32)} {Q : Option Value → zS → Prop} (hA : hAll σ0 σ L G mvs rows n) (hrl : ∀ r, r ∈ rows → r.length = L + G.length) (h5 : L + G.length ≤ 5) (hst : rows[s]? = some st) (hbe : iI σ be beh) (hbl : beh.length = L + G.length) (hob : iI σ ob one.row) (hra : iII σ ra rwl) (hmb : mvs[b]? = some ms) (hk : ms[k]? = some o) (hbL : b < L) (hok : hMok L G o) (hn1 : rows.length < 432) (hn2 : rwl.length < 1000) (hn3 : ms.length < 1000) (hn4 : mvs.length < 1000) (hR : uc + 8 ≤ RC ∧ us + (15 + 5 + (rwl.length + 1) + 3 * (rows.length + 1)) ≤ RS) (hv : ¬ o.h = one.h) (KK : ∀ σ' ra' rw' uc' us', hAll σ0 σ' L G mvs (rows) n → zY σ σ' → iII σ' ra' rw' → rw'.length ≤ rwl.length + 1 → uc' + 3 * rows.length ≤ uc + 5 + 3 * (rows).length → us' + hTri rwl.length + 1300 * rows.length ≤ us + 20 + hTri rw'.length + 1300 * (rows).length → zAW l zmX6_explore { frames := 3, cells := RC, slots := RS, locals := 79 } 343 [(0, .ref 30), (1, .int mo), (2, .int (nI L)), (4, .int (nI s)), (5, .ref (ra')), (6, .int (nI a)), (7, .int (nI m)), (8, .ref ob), (9, .ref be), (10, .int (nI b)), (11, .int (nI k))] [] σ' uc' us' Q) : zAW l zmX6_explore { frames := 3, cells := RC, slots := RS, locals := 79 } 221 [(0, .ref 30), (1, .int mo), (2, .int (nI L)), (4, .int (nI s)), (5, .ref (ra)), (6, .int (nI a)), (7, .int (nI m)), (8, .ref ob), (9, .ref be), (10, .int (nI b)), (11, .int (nI k))] [] σ uc us Q := by
  have h30 := hA.2.2.1.2.1
  have kM := hA.2.2.1.1
  have hgr := hA.2.1
  obtain ⟨sa, sg, sI⟩ := hA.2.2.1.2.2.1
  obtain ⟨ma, mg, mI⟩ := hA.2.2.2.1
  obtain ⟨mb, mb1, mb2⟩ := mI.2.2.2.2 b _ hmb
  obtain ⟨oo, oo1, oo2⟩ := mb2.2.2.2.2 k _ (show (ms.map hMv.row)[k]? = some o.row by rw [List.getElem?_map, hk]; rfl)
  obtain ⟨ss, ss1, ss2⟩ := sI.2.2.2.2 s _ hst
  have hkl := (List.getElem?_eq_some_iff.mp hk).1
  have hbm := (List.getElem?_eq_some_iff.mp hmb).1
  have hsl := (List.getElem?_eq_some_iff.mp hst).1
  have stl : st.length = L + G.length := hrl st (List.mem_of_getElem? hst)
  have yA : zY σ σ := zY.rf σ
  refine zw_iload dX6_explore_221 rfl ?_
  refine zw_aload_n dX6_explore_223 rfl ?_
  refine zw_getR dX6_explore_224 zfX6_21 rfl kM (by decide) mg ?_
  refine zw_iload dX6_explore_227 rfl ?_
  refine zw_aaload (t := 5) dX6_explore_229 mI.1 rfl (by decide) (zin_of mI.2.2.2.1 (vp_in_nI hbm (by omega))) ?_
  rw [nI_clamp (show b < 2 ^ 31 by omega), mb1]
  refine zw_alen (t := 4) dX6_explore_230 mb2.1 (by decide) ?_
  rw [mb2.2.2.2.1, List.length_map]
  refine zw_icmpge (tgt := 349) dX6_explore_231 (by decide) (fun c231 => ?_) (fun c231 => ?_)
  · exact absurd c231 (nI_ge hkl (by omega))
  · refine zw_aload_n dX6_explore_234 rfl ?_
    refine zw_getR dX6_explore_235 zfX6_21 rfl kM (by decide) mg ?_
    refine zw_iload dX6_explore_238 rfl ?_
    refine zw_aaload (t := 5) dX6_explore_240 mI.1 rfl (by decide) (zin_of mI.2.2.2.1 (vp_in_nI hbm (by omega))) ?_
    rw [nI_clamp (show b < 2 ^ 31 by omega), mb1]
    refine zw_iload dX6_explore_241 rfl ?_
    refine zw_aaload (t := 4) dX6_explore_243 mb2.1 rfl (by decide) (zin_of mb2.2.2.2.1 (vp_in_nI (by rw [List.length_map]; exact hkl) (by rw [List.length_map]; omega))) ?_
    rw [nI_clamp (show k < 2 ^ 31 by omega), oo1]
    refine zw_astore dX6_explore_244 (by decide) rfl ?_
    refine zw_aload dX6_explore_246 rfl ?_
    refine zw_iconst (x := 2) dX6_explore_248 rfl ?_
    refine zw_iaload dX6_explore_249 oo2.1 (nI_10 (by unfold vp_in; decide) oo2) ?_
    rw [hrow_2 oo2]
    refine zw_aload dX6_explore_250 rfl ?_
    refine zw_iconst (x := 2) dX6_explore_252 rfl ?_
    refine zw_iaload dX6_explore_253 hob.1 (nI_10 (by unfold vp_in; decide) hob) ?_
    rw [hrow_2 hob]
    refine zw_icmpne (tgt := 343) dX6_explore_254 (by decide) (fun c254 => ?_) (fun c254 => ?_)
    · refine zw_loc (lc' := [(0, .ref 30), (1, .int mo), (2, .int (nI L)), (4, .int (nI s)), (5, .ref (ra)), (6, .int (nI a)), (7, .int (nI m)), (8, .ref ob), (9, .ref be), (10, .int (nI b)), (11, .int (nI k))]) (zsub_cons rfl (zsub_cons rfl (zsub_cons rfl (zsub_cons rfl (zsub_cons rfl (zsub_cons rfl (zsub_cons rfl (zsub_cons rfl (zsub_cons rfl (zsub_cons rfl (zsub_cons rfl zsub_nil))))))))))) (KK _ ra rwl _ _ hA yA hra (Nat.le_succ _) ?_ ?_) <;> omega
    · exact absurd c254 hv
set_option maxHeartbeats 4000000 in
set_option maxRecDepth 100000 in
theorem lp_k_2 {l : Launch} {σ0 σ : zS} {RC RS L n s a m b k be ob ra uc us : Nat} {mo : Int32} {G st beh : List Int32} {mvs : List (List hMv)} {ms : List hMv} {one o : hMv} {rows rwl : List (List Int32)} {Q : Option Value → zS → Prop} (hA : hAll σ0 σ L G mvs rows n) (hrl : ∀ r, r ∈ rows → r.length = L + G.length) (h5 : L + G.length ≤ 5) (hst : rows[s]? = some st) (hbe : iI σ be beh) (hbl : beh.length = L + G.length) (hob : iI σ ob one.row) (hra : iII σ ra rwl) (hmb : mvs[b]? = some ms) (hk : ms[k]? = some o) (hbL : b < L) (hok : hMok L G o) (hn1 : rows.length < 432) (hn2 : rwl.length < 1000) (hn3 : ms.length < 1000) (hn4 : mvs.length < 1000) (hR : uc + 8 ≤ RC ∧ us + (15 + 5 + (rwl.length + 1) + 3 * (rows.length + 1)) ≤ RS) (hv : o.h = one.h) (hv2 : hOpn L G st b o = false) (KK : ∀ σ' ra' rw' uc' us', hAll σ0 σ' L G mvs (rows) n → zY σ σ' → iII σ' ra' rw' → rw'.length ≤ rwl.length + 1 → uc' + 3 * rows.length ≤ uc + 5 + 3 * (rows).length → us' + hTri rwl.length + 1300 * rows.length ≤ us + 20 + hTri rw'.length + 1300 * (rows).length → zAW l zmX6_explore { frames := 3, cells := RC, slots := RS, locals := 79 } 343 [(0, .ref 30), (1, .int mo), (2, .int (nI L)), (4, .int (nI s)), (5, .ref (ra')), (6, .int (nI a)), (7, .int (nI m)), (8, .ref ob), (9, .ref be), (10, .int (nI b)), (11, .int (nI k))] [] σ' uc' us' Q) : zAW l zmX6_explore { frames := 3, cells := RC, slots := RS, locals := 79 } 221 [(0, .ref 30), (1, .int mo), (2, .int (nI L)), (4, .int (nI s)), (5, .ref (ra)), (6, .int (nI a)), (7, .int (nI m)), (8, .ref ob), (9, .ref be), (10, .int (nI b)), (11, .int (nI k))] [] σ uc us Q := by
  have h30 := hA.2.2.1.2.1
  have kM := hA.2.2.1.1
  have hgr := hA.2.1
  obtain ⟨sa, sg, sI⟩ := hA.2.2.1.2.2.1
  obtain ⟨ma, mg, mI⟩ := hA.2.2.2.1
  obtain ⟨mb, mb1, mb2⟩ := mI.2.2.2.2 b _ hmb
  obtain ⟨oo, oo1, oo2⟩ := mb2.2.2.2.2 k _ (show (ms.map hMv.row)[k]? = some o.row by rw [List.getElem?_map, hk]; rfl)
  obtain ⟨ss, ss1, ss2⟩ := sI.2.2.2.2 s _ hst
  have hkl := (List.getElem?_eq_some_iff.mp hk).1
  have hbm := (List.getElem?_eq_some_iff.mp hmb).1
  have hsl := (List.getElem?_eq_some_iff.mp hst).1
  have stl : st.length = L + G.length := hrl st (List.mem_of_getElem? hst)
  have yA : zY σ σ := zY.rf σ
  refine zw_iload dX6_explore_221 rfl ?_
  refine zw_aload_n dX6_explore_223 rfl ?_
  refine zw_getR dX6_explore_224 zfX6_21 rfl kM (by decide) mg ?_
  refine zw_iload dX6_explore_227 rfl ?_
  refine zw_aaload (t := 5) dX6_explore_229 mI.1 rfl (by decide) (zin_of mI.2.2.2.1 (vp_in_nI hbm (by omega))) ?_
  rw [nI_clamp (show b < 2 ^ 31 by omega), mb1]
  refine zw_alen (t := 4) dX6_explore_230 mb2.1 (by decide) ?_
  rw [mb2.2.2.2.1, List.length_map]
  refine zw_icmpge (tgt := 349) dX6_explore_231 (by decide) (fun c231 => ?_) (fun c231 => ?_)
  · exact absurd c231 (nI_ge hkl (by omega))
  · refine zw_aload_n dX6_explore_234 rfl ?_
    refine zw_getR dX6_explore_235 zfX6_21 rfl kM (by decide) mg ?_
    refine zw_iload dX6_explore_238 rfl ?_
    refine zw_aaload (t := 5) dX6_explore_240 mI.1 rfl (by decide) (zin_of mI.2.2.2.1 (vp_in_nI hbm (by omega))) ?_
    rw [nI_clamp (show b < 2 ^ 31 by omega), mb1]
    refine zw_iload dX6_explore_241 rfl ?_
    refine zw_aaload (t := 4) dX6_explore_243 mb2.1 rfl (by decide) (zin_of mb2.2.2.2.1 (vp_in_nI (by rw [List.length_map]; exact hkl) (by rw [List.length_map]; omega))) ?_
    rw [nI_clamp (show k < 2 ^ 31 by omega), oo1]
    refine zw_astore dX6_explore_244 (by decide) rfl ?_
    refine zw_aload dX6_explore_246 rfl ?_
    refine zw_iconst (x := 2) dX6_explore_248 rfl ?_
    refine zw_iaload dX6_explore_249 oo2.1 (nI_10 (by unfold vp_in; decide) oo2) ?_
    rw [hrow_2 oo2]
    refine zw_aload dX6_explore_250 rfl ?_
    refine zw_iconst (x := 2) dX6_explore_252 rfl ?_
    refine zw_iaload dX6_explore_253 hob.1 (nI_10 (by unfold vp_in; decide) hob) ?_
    rw [hrow_2 hob]
    refine zw_icmpne (tgt := 343) dX6_explore_254 (by decide) (fun c254 => ?_) (fun c254 => ?_)
    · exact absurd hv c254
    · refine zw_aload_n dX6_explore_257 rfl ?_
      refine zw_aload_n dX6_explore_258 rfl ?_
      refine zw_getR dX6_explore_259 zfX6_25 rfl kM (by decide) sg ?_
      refine zw_iload dX6_explore_262 rfl ?_
      refine zw_aaload (t := 4) dX6_explore_264 sI.1 rfl (by decide) (zin_of sI.2.2.2.1 (vp_in_nI hsl (by omega))) ?_
      rw [nI_clamp (show s < 2 ^ 31 by omega), ss1]
      refine zw_iload dX6_explore_265 rfl ?_
      refine zw_aload dX6_explore_267 rfl ?_
      refine zw_callV (y' := zmX6_isOpen) dX6_explore_269 zlX6_62 zmX6_isOpen_ok kM (by decide) rfl (c_X6_isOpen hgr ss2 oo2 stl (by omega) hbL hok.2 hok.1) rfl rfl (Nat.le_of_ble_eq_true rfl) ⟨Nat.le_of_ble_eq_true rfl, Nat.le_of_ble_eq_true rfl⟩ ⟨show uc + 1 ≤ RC by omega, show us + st.length ≤ RS by omega⟩ ?_
      intro v269 s269 q269
      obtain ⟨rfl, x1⟩ := q269
      replace yA := yA.tr x1.y
      replace hbe := hbe.x x1
      replace hob := hob.x x1
      replace hra := iII.x hra x1
      replace oo2 := oo2.x x1
      replace hA := hA.x x1
      replace hgr := hA.2.1
      replace kM := hgr.1
      refine zw_ifeq (tgt := 343) dX6_explore_272 (by decide) (fun c272 => ?_) (fun c272 => ?_)
      · refine zw_loc (lc' := [(0, .ref 30), (1, .int mo), (2, .int (nI L)), (4, .int (nI s)), (5, .ref (ra)), (6, .int (nI a)), (7, .int (nI m)), (8, .ref ob), (9, .ref be), (10, .int (nI b)), (11, .int (nI k))]) (zsub_cons rfl (zsub_cons rfl (zsub_cons rfl (zsub_cons rfl (zsub_cons rfl (zsub_cons rfl (zsub_cons rfl (zsub_cons rfl (zsub_cons rfl (zsub_cons rfl (zsub_cons rfl zsub_nil))))))))))) (KK _ ra rwl _ _ hA yA hra (Nat.le_succ _) ?_ ?_) <;> omega
      · exact absurd (by rw [hv2]; rfl) c272
set_option maxHeartbeats 4000000 in
set_option maxRecDepth 100000 in
theorem lp_k_3 {l : Launch} {σ0 σ : zS} {RC RS L n s a m b k be ob ra uc us : Nat} {mo : Int32} {G st beh : List Int32} {mvs : List (List hMv)} {ms : List hMv} {one o : hMv} {rows rwl : List (List Int32)} {Q : Option Value → zS → Prop} (hA : hAll σ0 σ L G mvs rows n) (hrl : ∀ r, r ∈ rows → r.length = L + G.length) (h5 : L + G.length ≤ 5) (hst : rows[s]? = some st) (hbe : iI σ be beh) (hbl : beh.length = L + G.length) (hob : iI σ ob one.row) (hra : iII σ ra rwl) (hmb : mvs[b]? = some ms) (hk : ms[k]? = some o) (hbL : b < L) (hok : hMok L G o) (hn1 : rows.length < 432) (hn2 : rwl.length < 1000) (hn3 : ms.length < 1000) (hn4 : mvs.length < 1000) (hR : uc + 8 ≤ RC ∧ us + (15 + 5 + (rwl.length + 1) + 3 * (rows.length + 1)) ≤ RS) (hv : o.h = one.h) (hv2 : hOpn L G st b o = true) (hD : hDn L G beh b o = none) (KK : ∀ σ' ra' rw' uc' us', hAll σ0 σ' L G mvs (rows) n → zY σ σ' → iII σ' ra' rw' → rw'.length ≤ rwl.length + 1 → uc' + 3 * rows.length ≤ uc + 5 + 3 * (rows).length → us' + hTri rwl.length + 1300 * rows.length ≤ us + 20 + hTri rw'.length + 1300 * (rows).length → zAW l zmX6_explore { frames := 3, cells := RC, slots := RS, locals := 79 } 343 [(0, .ref 30), (1, .int mo), (2, .int (nI L)), (4, .int (nI s)), (5, .ref (ra')), (6, .int (nI a)), (7, .int (nI m)), (8, .ref ob), (9, .ref be), (10, .int (nI b)), (11, .int (nI k))] [] σ' uc' us' Q) : zAW l zmX6_explore { frames := 3, cells := RC, slots := RS, locals := 79 } 221 [(0, .ref 30), (1, .int mo), (2, .int (nI L)), (4, .int (nI s)), (5, .ref (ra)), (6, .int (nI a)), (7, .int (nI m)), (8, .ref ob), (9, .ref be), (10, .int (nI b)), (11, .int (nI k))] [] σ uc us Q := by
  have h30 := hA.2.2.1.2.1
  have kM := hA.2.2.1.1
  have hgr := hA.2.1
  obtain ⟨sa, sg, sI⟩ := hA.2.2.1.2.2.1
  obtain ⟨ma, mg, mI⟩ := hA.2.2.2.1
  obtain ⟨mb, mb1, mb2⟩ := mI.2.2.2.2 b _ hmb
  obtain ⟨oo, oo1, oo2⟩ := mb2.2.2.2.2 k _ (show (ms.map hMv.row)[k]? = some o.row by rw [List.getElem?_map, hk]; rfl)
  obtain ⟨ss, ss1, ss2⟩ := sI.2.2.2.2 s _ hst
  have hkl := (List.getElem?_eq_some_iff.mp hk).1
  have hbm := (List.getElem?_eq_some_iff.mp hmb).1
  have hsl := (List.getElem?_eq_some_iff.mp hst).1
  have stl : st.length = L + G.length := hrl st (List.mem_of_getElem? hst)
  have yA : zY σ σ := zY.rf σ
  refine zw_iload dX6_explore_221 rfl ?_
  refine zw_aload_n dX6_explore_223 rfl ?_
  refine zw_getR dX6_explore_224 zfX6_21 rfl kM (by decide) mg ?_
  refine zw_iload dX6_explore_227 rfl ?_
  refine zw_aaload (t := 5) dX6_explore_229 mI.1 rfl (by decide) (zin_of mI.2.2.2.1 (vp_in_nI hbm (by omega))) ?_
  rw [nI_clamp (show b < 2 ^ 31 by omega), mb1]
  refine zw_alen (t := 4) dX6_explore_230 mb2.1 (by decide) ?_
  rw [mb2.2.2.2.1, List.length_map]
  refine zw_icmpge (tgt := 349) dX6_explore_231 (by decide) (fun c231 => ?_) (fun c231 => ?_)
  · exact absurd c231 (nI_ge hkl (by omega))
  · refine zw_aload_n dX6_explore_234 rfl ?_
    refine zw_getR dX6_explore_235 zfX6_21 rfl kM (by decide) mg ?_
    refine zw_iload dX6_explore_238 rfl ?_
    refine zw_aaload (t := 5) dX6_explore_240 mI.1 rfl (by decide) (zin_of mI.2.2.2.1 (vp_in_nI hbm (by omega))) ?_
    rw [nI_clamp (show b < 2 ^ 31 by omega), mb1]
    refine zw_iload dX6_explore_241 rfl ?_
    refine zw_aaload (t := 4) dX6_explore_243 mb2.1 rfl (by decide) (zin_of mb2.2.2.2.1 (vp_in_nI (by rw [List.length_map]; exact hkl) (by rw [List.length_map]; omega))) ?_
    rw [nI_clamp (show k < 2 ^ 31 by omega), oo1]
    refine zw_astore dX6_explore_244 (by decide) rfl ?_
    refine zw_aload dX6_explore_246 rfl ?_
    refine zw_iconst (x := 2) dX6_explore_248 rfl ?_
    refine zw_iaload dX6_explore_249 oo2.1 (nI_10 (by unfold vp_in; decide) oo2) ?_
    rw [hrow_2 oo2]
    refine zw_aload dX6_explore_250 rfl ?_
    refine zw_iconst (x := 2) dX6_explore_252 rfl ?_
    refine zw_iaload dX6_explore_253 hob.1 (nI_10 (by unfold vp_in; decide) hob) ?_
    rw [hrow_2 hob]
    refine zw_icmpne (tgt := 343) dX6_explore_254 (by decide) (fun c254 => ?_) (fun c254 => ?_)
    · exact absurd hv c254
    · refine zw_aload_n dX6_explore_257 rfl ?_
      refine zw_aload_n dX6_explore_258 rfl ?_
      refine zw_getR dX6_explore_259 zfX6_25 rfl kM (by decide) sg ?_
      refine zw_iload dX6_explore_262 rfl ?_
      refine zw_aaload (t := 4) dX6_explore_264 sI.1 rfl (by decide) (zin_of sI.2.2.2.1 (vp_in_nI hsl (by omega))) ?_
      rw [nI_clamp (show s < 2 ^ 31 by omega), ss1]
      refine zw_iload dX6_explore_265 rfl ?_
      refine zw_aload dX6_explore_267 rfl ?_
      refine zw_callV (y' := zmX6_isOpen) dX6_explore_269 zlX6_62 zmX6_isOpen_ok kM (by decide) rfl (c_X6_isOpen hgr ss2 oo2 stl (by omega) hbL hok.2 hok.1) rfl rfl (Nat.le_of_ble_eq_true rfl) ⟨Nat.le_of_ble_eq_true rfl, Nat.le_of_ble_eq_true rfl⟩ ⟨show uc + 1 ≤ RC by omega, show us + st.length ≤ RS by omega⟩ ?_
      intro v269 s269 q269
      obtain ⟨rfl, x1⟩ := q269
      replace yA := yA.tr x1.y
      replace hbe := hbe.x x1
      replace hob := hob.x x1
      replace hra := iII.x hra x1
      replace oo2 := oo2.x x1
      replace hA := hA.x x1
      replace hgr := hA.2.1
      replace kM := hgr.1
      refine zw_ifeq (tgt := 343) dX6_explore_272 (by decide) (fun c272 => ?_) (fun c272 => ?_)
      · exact absurd c272 (by rw [hv2]; decide)
      · refine zw_aload_n dX6_explore_275 rfl ?_
        refine zw_aload dX6_explore_276 rfl ?_
        refine zw_iload dX6_explore_278 rfl ?_
        refine zw_aload dX6_explore_280 rfl ?_
        refine zw_callV (y' := zmX6_done) dX6_explore_282 zlX6_43 zmX6_done_ok kM (by decide) rfl (c_X6_done_none hgr hbe oo2 hbl (by omega) hbL hok.2 hD) rfl rfl (Nat.le_of_ble_eq_true rfl) ⟨Nat.le_of_ble_eq_true rfl, Nat.le_of_ble_eq_true rfl⟩ ⟨show uc + 1 + 1 ≤ RC by omega, show us + st.length + beh.length ≤ RS by omega⟩ ?_
        intro v282 s282 q282
        obtain ⟨rfl, x2, n2⟩ := q282
        replace yA := yA.tr x2.y
        replace hbe := hbe.x x2
        replace hob := hob.x x2
        replace hra := iII.x hra x2
        replace oo2 := oo2.x x2
        replace hA := hA.x x2
        replace hgr := hA.2.1
        replace kM := hgr.1
        refine zw_ifnonnullN dX6_explore_285 ?_
        refine zw_goto (tgt := 343) dX6_explore_288 (by decide) ?_
        refine zw_loc (lc' := [(0, .ref 30), (1, .int mo), (2, .int (nI L)), (4, .int (nI s)), (5, .ref (ra)), (6, .int (nI a)), (7, .int (nI m)), (8, .ref ob), (9, .ref be), (10, .int (nI b)), (11, .int (nI k))]) (zsub_cons rfl (zsub_cons rfl (zsub_cons rfl (zsub_cons rfl (zsub_cons rfl (zsub_cons rfl (zsub_cons rfl (zsub_cons rfl (zsub_cons rfl (zsub_cons rfl (zsub_cons rfl zsub_nil))))))))))) (KK _ ra rwl _ _ hA yA hra (Nat.le_succ _) ?_ ?_) <;> omega
set_option maxHeartbeats 4000000 in
set_option maxRecDepth 100000 in
theorem lp_k_4 {l : Launch} {σ0 σ : zS} {RC RS L n s a m b k be ob ra uc us : Nat} {mo : Int32} {G st beh : List Int32} {mvs : List (List hMv)} {ms : List hMv} {one o : hMv} {rows rwl : List (List Int32)} {Q : Option Value → zS → Prop} (hA : hAll σ0 σ L G mvs rows n) (hrl : ∀ r, r ∈ rows → r.length = L + G.length) (h5 : L + G.length ≤ 5) (hst : rows[s]? = some st) (hbe : iI σ be beh) (hbl : beh.length = L + G.length) (hob : iI σ ob one.row) (hra : iII σ ra rwl) (hmb : mvs[b]? = some ms) (hk : ms[k]? = some o) (hbL : b < L) (hok : hMok L G o) (hn1 : rows.length < 432) (hn2 : rwl.length < 1000) (hn3 : ms.length < 1000) (hn4 : mvs.length < 1000) (hR : uc + 8 ≤ RC ∧ us + (15 + 5 + (rwl.length + 1) + 3 * (rows.length + 1)) ≤ RS) (hv : o.h = one.h) (hv2 : hOpn L G st b o = true) {t : List Int32} (hD : hDn L G beh b o = some t) {ix : Nat} (hix : hFx rows t (some ix)) (KK : ∀ σ' ra' rw' uc' us', hAll σ0 σ' L G mvs (rows) n → zY σ σ' → iII σ' ra' rw' → rw'.length ≤ rwl.length + 1 → uc' + 3 * rows.length ≤ uc + 5 + 3 * (rows).length → us' + hTri rwl.length + 1300 * rows.length ≤ us + 20 + hTri rw'.length + 1300 * (rows).length → zAW l zmX6_explore { frames := 3, cells := RC, slots := RS, locals := 79 } 343 [(0, .ref 30), (1, .int mo), (2, .int (nI L)), (4, .int (nI s)), (5, .ref (ra')), (6, .int (nI a)), (7, .int (nI m)), (8, .ref ob), (9, .ref be), (10, .int (nI b)), (11, .int (nI k))] [] σ' uc' us' Q) : zAW l zmX6_explore { frames := 3, cells := RC, slots := RS, locals := 79 } 221 [(0, .ref 30), (1, .int mo), (2, .int (nI L)), (4, .int (nI s)), (5, .ref (ra)), (6, .int (nI a)), (7, .int (nI m)), (8, .ref ob), (9, .ref be), (10, .int (nI b)), (11, .int (nI k))] [] σ uc us Q := by
  have h30 := hA.2.2.1.2.1
  have kM := hA.2.2.1.1
  have hgr := hA.2.1
  obtain ⟨sa, sg, sI⟩ := hA.2.2.1.2.2.1
  obtain ⟨ma, mg, mI⟩ := hA.2.2.2.1
  obtain ⟨mb, mb1, mb2⟩ := mI.2.2.2.2 b _ hmb
  obtain ⟨oo, oo1, oo2⟩ := mb2.2.2.2.2 k _ (show (ms.map hMv.row)[k]? = some o.row by rw [List.getElem?_map, hk]; rfl)
  obtain ⟨ss, ss1, ss2⟩ := sI.2.2.2.2 s _ hst
  have hkl := (List.getElem?_eq_some_iff.mp hk).1
  have hbm := (List.getElem?_eq_some_iff.mp hmb).1
  have hsl := (List.getElem?_eq_some_iff.mp hst).1
  have stl : st.length = L + G.length := hrl st (List.mem_of_getElem? hst)
  have yA : zY σ σ := zY.rf σ
  refine zw_iload dX6_explore_221 rfl ?_
  refine zw_aload_n dX6_explore_223 rfl ?_
  refine zw_getR dX6_explore_224 zfX6_21 rfl kM (by decide) mg ?_
  refine zw_iload dX6_explore_227 rfl ?_
  refine zw_aaload (t := 5) dX6_explore_229 mI.1 rfl (by decide) (zin_of mI.2.2.2.1 (vp_in_nI hbm (by omega))) ?_
  rw [nI_clamp (show b < 2 ^ 31 by omega), mb1]
  refine zw_alen (t := 4) dX6_explore_230 mb2.1 (by decide) ?_
  rw [mb2.2.2.2.1, List.length_map]
  refine zw_icmpge (tgt := 349) dX6_explore_231 (by decide) (fun c231 => ?_) (fun c231 => ?_)
  · exact absurd c231 (nI_ge hkl (by omega))
  · refine zw_aload_n dX6_explore_234 rfl ?_
    refine zw_getR dX6_explore_235 zfX6_21 rfl kM (by decide) mg ?_
    refine zw_iload dX6_explore_238 rfl ?_
    refine zw_aaload (t := 5) dX6_explore_240 mI.1 rfl (by decide) (zin_of mI.2.2.2.1 (vp_in_nI hbm (by omega))) ?_
    rw [nI_clamp (show b < 2 ^ 31 by omega), mb1]
    refine zw_iload dX6_explore_241 rfl ?_
    refine zw_aaload (t := 4) dX6_explore_243 mb2.1 rfl (by decide) (zin_of mb2.2.2.2.1 (vp_in_nI (by rw [List.length_map]; exact hkl) (by rw [List.length_map]; omega))) ?_
    rw [nI_clamp (show k < 2 ^ 31 by omega), oo1]
    refine zw_astore dX6_explore_244 (by decide) rfl ?_
    refine zw_aload dX6_explore_246 rfl ?_
    refine zw_iconst (x := 2) dX6_explore_248 rfl ?_
    refine zw_iaload dX6_explore_249 oo2.1 (nI_10 (by unfold vp_in; decide) oo2) ?_
    rw [hrow_2 oo2]
    refine zw_aload dX6_explore_250 rfl ?_
    refine zw_iconst (x := 2) dX6_explore_252 rfl ?_
    refine zw_iaload dX6_explore_253 hob.1 (nI_10 (by unfold vp_in; decide) hob) ?_
    rw [hrow_2 hob]
    refine zw_icmpne (tgt := 343) dX6_explore_254 (by decide) (fun c254 => ?_) (fun c254 => ?_)
    · exact absurd hv c254
    · refine zw_aload_n dX6_explore_257 rfl ?_
      refine zw_aload_n dX6_explore_258 rfl ?_
      refine zw_getR dX6_explore_259 zfX6_25 rfl kM (by decide) sg ?_
      refine zw_iload dX6_explore_262 rfl ?_
      refine zw_aaload (t := 4) dX6_explore_264 sI.1 rfl (by decide) (zin_of sI.2.2.2.1 (vp_in_nI hsl (by omega))) ?_
      rw [nI_clamp (show s < 2 ^ 31 by omega), ss1]
      refine zw_iload dX6_explore_265 rfl ?_
      refine zw_aload dX6_explore_267 rfl ?_
      refine zw_callV (y' := zmX6_isOpen) dX6_explore_269 zlX6_62 zmX6_isOpen_ok kM (by decide) rfl (c_X6_isOpen hgr ss2 oo2 stl (by omega) hbL hok.2 hok.1) rfl rfl (Nat.le_of_ble_eq_true rfl) ⟨Nat.le_of_ble_eq_true rfl, Nat.le_of_ble_eq_true rfl⟩ ⟨show uc + 1 ≤ RC by omega, show us + st.length ≤ RS by omega⟩ ?_
      intro v269 s269 q269
      obtain ⟨rfl, x1⟩ := q269
      replace yA := yA.tr x1.y
      replace hbe := hbe.x x1
      replace hob := hob.x x1
      replace hra := iII.x hra x1
      replace oo2 := oo2.x x1
      replace hA := hA.x x1
      replace hgr := hA.2.1
      replace kM := hgr.1
      refine zw_ifeq (tgt := 343) dX6_explore_272 (by decide) (fun c272 => ?_) (fun c272 => ?_)
      · exact absurd c272 (by rw [hv2]; decide)
      · refine zw_aload_n dX6_explore_275 rfl ?_
        refine zw_aload dX6_explore_276 rfl ?_
        refine zw_iload dX6_explore_278 rfl ?_
        refine zw_aload dX6_explore_280 rfl ?_
        refine zw_callV (y' := zmX6_done) dX6_explore_282 zlX6_43 zmX6_done_ok kM (by decide) rfl (c_X6_done_some hgr hbe oo2 hbl (by omega) hbL hok.2 hD) rfl rfl (Nat.le_of_ble_eq_true rfl) ⟨Nat.le_of_ble_eq_true rfl, Nat.le_of_ble_eq_true rfl⟩ ⟨show uc + 1 + 1 ≤ RC by omega, show us + st.length + beh.length ≤ RS by omega⟩ ?_
        intro v282 s282 q282
        obtain ⟨rfl, x2, n2, r2⟩ := q282
        replace yA := yA.tr x2.y
        replace hbe := hbe.x x2
        replace hob := hob.x x2
        replace hra := iII.x hra x2
        replace oo2 := oo2.x x2
        replace hA := hA.x x2
        replace hgr := hA.2.1
        replace kM := hgr.1
        refine zw_ifnonnull (tgt := 291) dX6_explore_285 (by decide) ?_
        refine zw_aload dX6_explore_291 rfl ?_
        refine zw_iconst (x := 5) dX6_explore_293 rfl ?_
        refine zw_newI (N := 5) dX6_explore_294 rfl (Nat.le_of_ble_eq_true rfl) ⟨show uc + 1 + 1 + 1 ≤ RC by omega, show us + st.length + beh.length + 5 ≤ RS by omega⟩ ?_
        have x3 : zX s282 (znA1 s282 0 5) := (zX.rf _).A1 0 5
        have a5 : iI (znA1 s282 0 5) (zn s282) [0, 0, 0, 0, 0] := iI_new (by have := hA.2.2.1.2.1; omega)
        have n3 : zn (znA1 s282 0 5) = zn s282 + 1 := rfl
        have hB := hA
        have hraB := hra
        replace yA := yA
        have yS := yA
        have dP : hHdP (fun b => b ≠ zn s282) (znA1 s282 0 5) rows := (hA.2.2.1.p (fun i hi => Nat.ne_of_lt hi)).x x3
        have gB : zG (znA1 s282 0 5) 6 5 30 = zG s282 6 5 30 := rfl
        have yB : zY s282 (znA1 s282 0 5) := x3.y
        generalize znA1 s282 0 5 = σ3 at x3 a5 n3 dP gB yB ⊢
        replace yA := yA.tr x3.y
        replace hbe := hbe.x x3
        replace hob := hob.x x3
        replace hra := iII.x hra x3
        replace oo2 := oo2.x x3
        replace hA := hA.x x3
        replace hgr := hA.2.1
        replace kM := hgr.1
        refine zw_dup dX6_explore_296 rfl ?_
        refine zw_iconst (x := 0) dX6_explore_297 rfl ?_
        refine zw_aload_n dX6_explore_298 rfl ?_
        refine zw_aload_n dX6_explore_299 rfl ?_
        refine zw_aload dX6_explore_300 rfl ?_
        refine zw_iload dX6_explore_302 rfl ?_
        refine zw_aload dX6_explore_304 rfl ?_
        refine zw_callV (y' := zmX6_done) dX6_explore_306 zlX6_43 zmX6_done_ok kM (by decide) rfl (c_X6_done_some hgr hbe oo2 hbl (by omega) hbL hok.2 hD) rfl rfl (Nat.le_of_ble_eq_true rfl) ⟨Nat.le_of_ble_eq_true rfl, Nat.le_of_ble_eq_true rfl⟩ ⟨show uc + 1 + 1 + 1 + 1 ≤ RC by omega, show us + st.length + beh.length + 5 + beh.length ≤ RS by omega⟩ ?_
        intro v306 s306 q306
        obtain ⟨rfl, x4, n4, r4⟩ := q306
        replace gB := (((x4.2 30 dP.2.1).2.2.2.2 6 5).2).trans gB
        replace a5 := a5.x x4
        replace dP := dP.x x4
        replace yB := yB.tr x4.y
        replace yA := yA.tr x4.y
        replace hbe := hbe.x x4
        replace hob := hob.x x4
        replace hra := iII.x hra x4
        replace oo2 := oo2.x x4
        replace hA := hA.x x4
        replace hgr := hA.2.1
        replace kM := hgr.1
        refine zw_iload dX6_explore_309 rfl ?_
        refine zw_aload dX6_explore_311 rfl ?_
        refine zw_alen (t := 4) dX6_explore_313 hra.1 (by decide) ?_
        rw [hra.2.2.2.1]
        refine zw_callV (y' := zmX6_number) dX6_explore_314 zlX6_58 zmX6_number_ok kM (by decide) rfl (c_X6_number_old hA.2.2.1 r4 (by omega) (by rw [hDn_len hD]; omega) (fun r hr => by rw [hrl r hr, hDn_len hD, hbl]) hix) rfl rfl (Nat.le_of_ble_eq_true rfl) ⟨Nat.le_of_ble_eq_true rfl, Nat.le_of_ble_eq_true rfl⟩ ⟨show uc + 1 + 1 + 1 + 1 + 0 ≤ RC by omega, show us + st.length + beh.length + 5 + beh.length + 0 ≤ RS by omega⟩ ?_
        intro v314 s314 q314
        obtain ⟨rfl, z314⟩ := q314
        rw [z314]
        clear z314
        refine zw_iastore dX6_explore_317 a5.1 a5.2.1 (zin_of a5.2.2.2.1 (by unfold vp_in; decide)) ?_
        refine zw_dup dX6_explore_318 rfl ?_
        refine zw_iconst (x := 1) dX6_explore_319 rfl ?_
        refine zw_iload dX6_explore_320 rfl ?_
        refine zw_iastore dX6_explore_322 a5.1 a5.2.1 (zin_of a5.2.2.2.1 (by unfold vp_in; decide)) ?_
        refine zw_dup dX6_explore_323 rfl ?_
        refine zw_iconst (x := 2) dX6_explore_324 rfl ?_
        refine zw_iload dX6_explore_325 rfl ?_
        refine zw_iastore dX6_explore_327 a5.1 a5.2.1 (zin_of a5.2.2.2.1 (by unfold vp_in; decide)) ?_
        refine zw_dup dX6_explore_328 rfl ?_
        refine zw_iconst (x := 3) dX6_explore_329 rfl ?_
        refine zw_iload dX6_explore_330 rfl ?_
        refine zw_iastore dX6_explore_332 a5.1 a5.2.1 (zin_of a5.2.2.2.1 (by unfold vp_in; decide)) ?_
        refine zw_dup dX6_explore_333 rfl ?_
        refine zw_iconst (x := 4) dX6_explore_334 rfl ?_
        refine zw_iload dX6_explore_335 rfl ?_
        refine zw_iastore dX6_explore_337 a5.1 a5.2.1 (zin_of a5.2.2.2.1 (by unfold vp_in; decide)) ?_
        have aF := ((((a5.set (Int32.toNatClampNeg 0) (nI ix)).set (Int32.toNatClampNeg 1) (nI a)).set (Int32.toNatClampNeg 2) (nI m)).set (Int32.toNatClampNeg 3) (nI b)).set (Int32.toNatClampNeg 4) (nI k)
        have yF : zY s282 (zsI (zsI (zsI (zsI (zsI (s306) (zn s282) (Int32.toNatClampNeg 0) (nI ix)) (zn s282) (Int32.toNatClampNeg 1) (nI a)) (zn s282) (Int32.toNatClampNeg 2) (nI m)) (zn s282) (Int32.toNatClampNeg 3) (nI b)) (zn s282) (Int32.toNatClampNeg 4) (nI k)) := ((((yB.I (Nat.le_refl _)).I (Nat.le_refl _)).I (Nat.le_refl _)).I (Nat.le_refl _)).I (Nat.le_refl _)
        have dF : hHdP (fun b => b ≠ zn s282) (zsI (zsI (zsI (zsI (zsI (s306) (zn s282) (Int32.toNatClampNeg 0) (nI ix)) (zn s282) (Int32.toNatClampNeg 1) (nI a)) (zn s282) (Int32.toNatClampNeg 2) (nI m)) (zn s282) (Int32.toNatClampNeg 3) (nI b)) (zn s282) (Int32.toNatClampNeg 4) (nI k)) (rows) := hHdP.I (hHdP.I (hHdP.I (hHdP.I (hHdP.I dP))))
        have gF : zG (zsI (zsI (zsI (zsI (zsI (s306) (zn s282) (Int32.toNatClampNeg 0) (nI ix)) (zn s282) (Int32.toNatClampNeg 1) (nI a)) (zn s282) (Int32.toNatClampNeg 2) (nI m)) (zn s282) (Int32.toNatClampNeg 3) (nI b)) (zn s282) (Int32.toNatClampNeg 4) (nI k)) 6 5 30 = zG s282 6 5 30 := gB
        generalize zsI (zsI (zsI (zsI (zsI (s306) (zn s282) (Int32.toNatClampNeg 0) (nI ix)) (zn s282) (Int32.toNatClampNeg 1) (nI a)) (zn s282) (Int32.toNatClampNeg 2) (nI m)) (zn s282) (Int32.toNatClampNeg 3) (nI b)) (zn s282) (Int32.toNatClampNeg 4) (nI k) = σF at aF yF dF gF ⊢
        have raF := iII.y hraB yF
        have hAF := hB.num yF dF.hd gF
        replace yA := yS
        refine zw_callS (y' := zmX6_more_) dX6_explore_338 zlX6_51 zmX6_more__ok (c_X6_more_ raF aF (by omega)) rfl rfl (Nat.le_of_ble_eq_true rfl) ⟨Nat.le_of_ble_eq_true rfl, Nat.le_of_ble_eq_true rfl⟩ ⟨show uc + 1 + 1 + 1 + 1 + 0 + 1 ≤ RC by omega, show us + st.length + beh.length + 5 + beh.length + 0 + (rwl.length + 1) ≤ RS by omega⟩ ?_
        intro v338 s338 q338
        obtain ⟨rfl, x7, n7, r7⟩ := q338
        refine zw_astore dX6_explore_341 (by decide) rfl ?_
        have hl7 : (rwl ++ [((((([0, 0, 0, 0, 0] : List Int32).set (Int32.toNatClampNeg 0) (nI ix)).set (Int32.toNatClampNeg 1) (nI a)).set (Int32.toNatClampNeg 2) (nI m)).set (Int32.toNatClampNeg 3) (nI b)).set (Int32.toNatClampNeg 4) (nI k)]).length = rwl.length + 1 := by rw [List.length_append, List.length_singleton]
        have ht7 : hTri (rwl.length + 1) = hTri rwl.length + (rwl.length + 1) := rfl
        have hl8 : (rows).length = rows.length := rfl
        refine zw_loc (lc' := [(0, .ref 30), (1, .int mo), (2, .int (nI L)), (4, .int (nI s)), (5, .ref (zn σF)), (6, .int (nI a)), (7, .int (nI m)), (8, .ref ob), (9, .ref be), (10, .int (nI b)), (11, .int (nI k))]) (zsub_cons rfl (zsub_cons rfl (zsub_cons rfl (zsub_cons rfl (zsub_cons rfl (zsub_cons rfl (zsub_cons rfl (zsub_cons rfl (zsub_cons rfl (zsub_cons rfl (zsub_cons rfl zsub_nil))))))))))) (KK _ (zn σF) _ _ _ (hAF.x x7) ((yA.tr yF).tr x7.y) r7 (Nat.le_of_eq hl7) ?_ ?_)
        · rw [hl8]; omega
        · rw [hl7, hl8, ht7]; omega
set_option maxHeartbeats 4000000 in
set_option maxRecDepth 100000 in
theorem lp_k_5 {l : Launch} {σ0 σ : zS} {RC RS L n s a m b k be ob ra uc us : Nat} {mo : Int32} {G st beh : List Int32} {mvs : List (List hMv)} {ms : List hMv} {one o : hMv} {rows rwl : List (List Int32)} {Q : Option Value → zS → Prop} (hA : hAll σ0 σ L G mvs rows n) (hrl : ∀ r, r ∈ rows → r.length = L + G.length) (h5 : L + G.length ≤ 5) (hst : rows[s]? = some st) (hbe : iI σ be beh) (hbl : beh.length = L + G.length) (hob : iI σ ob one.row) (hra : iII σ ra rwl) (hmb : mvs[b]? = some ms) (hk : ms[k]? = some o) (hbL : b < L) (hok : hMok L G o) (hn1 : rows.length < 432) (hn2 : rwl.length < 1000) (hn3 : ms.length < 1000) (hn4 : mvs.length < 1000) (hR : uc + 8 ≤ RC ∧ us + (15 + 5 + (rwl.length + 1) + 3 * (rows.length + 1)) ≤ RS) (hv : o.h = one.h) (hv2 : hOpn L G st b o = true) {t : List Int32} (hD : hDn L G beh b o = some t) (hT : t ∉ rows) (KK : ∀ σ' ra' rw' uc' us', hAll σ0 σ' L G mvs (rows ++ [t]) n → zY σ σ' → iII σ' ra' rw' → rw'.length ≤ rwl.length + 1 → uc' + 3 * rows.length ≤ uc + 5 + 3 * (rows ++ [t]).length → us' + hTri rwl.length + 1300 * rows.length ≤ us + 20 + hTri rw'.length + 1300 * (rows ++ [t]).length → zAW l zmX6_explore { frames := 3, cells := RC, slots := RS, locals := 79 } 343 [(0, .ref 30), (1, .int mo), (2, .int (nI L)), (4, .int (nI s)), (5, .ref (ra')), (6, .int (nI a)), (7, .int (nI m)), (8, .ref ob), (9, .ref be), (10, .int (nI b)), (11, .int (nI k))] [] σ' uc' us' Q) : zAW l zmX6_explore { frames := 3, cells := RC, slots := RS, locals := 79 } 221 [(0, .ref 30), (1, .int mo), (2, .int (nI L)), (4, .int (nI s)), (5, .ref (ra)), (6, .int (nI a)), (7, .int (nI m)), (8, .ref ob), (9, .ref be), (10, .int (nI b)), (11, .int (nI k))] [] σ uc us Q := by
  have h30 := hA.2.2.1.2.1
  have kM := hA.2.2.1.1
  have hgr := hA.2.1
  obtain ⟨sa, sg, sI⟩ := hA.2.2.1.2.2.1
  obtain ⟨ma, mg, mI⟩ := hA.2.2.2.1
  obtain ⟨mb, mb1, mb2⟩ := mI.2.2.2.2 b _ hmb
  obtain ⟨oo, oo1, oo2⟩ := mb2.2.2.2.2 k _ (show (ms.map hMv.row)[k]? = some o.row by rw [List.getElem?_map, hk]; rfl)
  obtain ⟨ss, ss1, ss2⟩ := sI.2.2.2.2 s _ hst
  have hkl := (List.getElem?_eq_some_iff.mp hk).1
  have hbm := (List.getElem?_eq_some_iff.mp hmb).1
  have hsl := (List.getElem?_eq_some_iff.mp hst).1
  have stl : st.length = L + G.length := hrl st (List.mem_of_getElem? hst)
  have yA : zY σ σ := zY.rf σ
  refine zw_iload dX6_explore_221 rfl ?_
  refine zw_aload_n dX6_explore_223 rfl ?_
  refine zw_getR dX6_explore_224 zfX6_21 rfl kM (by decide) mg ?_
  refine zw_iload dX6_explore_227 rfl ?_
  refine zw_aaload (t := 5) dX6_explore_229 mI.1 rfl (by decide) (zin_of mI.2.2.2.1 (vp_in_nI hbm (by omega))) ?_
  rw [nI_clamp (show b < 2 ^ 31 by omega), mb1]
  refine zw_alen (t := 4) dX6_explore_230 mb2.1 (by decide) ?_
  rw [mb2.2.2.2.1, List.length_map]
  refine zw_icmpge (tgt := 349) dX6_explore_231 (by decide) (fun c231 => ?_) (fun c231 => ?_)
  · exact absurd c231 (nI_ge hkl (by omega))
  · refine zw_aload_n dX6_explore_234 rfl ?_
    refine zw_getR dX6_explore_235 zfX6_21 rfl kM (by decide) mg ?_
    refine zw_iload dX6_explore_238 rfl ?_
    refine zw_aaload (t := 5) dX6_explore_240 mI.1 rfl (by decide) (zin_of mI.2.2.2.1 (vp_in_nI hbm (by omega))) ?_
    rw [nI_clamp (show b < 2 ^ 31 by omega), mb1]
    refine zw_iload dX6_explore_241 rfl ?_
    refine zw_aaload (t := 4) dX6_explore_243 mb2.1 rfl (by decide) (zin_of mb2.2.2.2.1 (vp_in_nI (by rw [List.length_map]; exact hkl) (by rw [List.length_map]; omega))) ?_
    rw [nI_clamp (show k < 2 ^ 31 by omega), oo1]
    refine zw_astore dX6_explore_244 (by decide) rfl ?_
    refine zw_aload dX6_explore_246 rfl ?_
    refine zw_iconst (x := 2) dX6_explore_248 rfl ?_
    refine zw_iaload dX6_explore_249 oo2.1 (nI_10 (by unfold vp_in; decide) oo2) ?_
    rw [hrow_2 oo2]
    refine zw_aload dX6_explore_250 rfl ?_
    refine zw_iconst (x := 2) dX6_explore_252 rfl ?_
    refine zw_iaload dX6_explore_253 hob.1 (nI_10 (by unfold vp_in; decide) hob) ?_
    rw [hrow_2 hob]
    refine zw_icmpne (tgt := 343) dX6_explore_254 (by decide) (fun c254 => ?_) (fun c254 => ?_)
    · exact absurd hv c254
    · refine zw_aload_n dX6_explore_257 rfl ?_
      refine zw_aload_n dX6_explore_258 rfl ?_
      refine zw_getR dX6_explore_259 zfX6_25 rfl kM (by decide) sg ?_
      refine zw_iload dX6_explore_262 rfl ?_
      refine zw_aaload (t := 4) dX6_explore_264 sI.1 rfl (by decide) (zin_of sI.2.2.2.1 (vp_in_nI hsl (by omega))) ?_
      rw [nI_clamp (show s < 2 ^ 31 by omega), ss1]
      refine zw_iload dX6_explore_265 rfl ?_
      refine zw_aload dX6_explore_267 rfl ?_
      refine zw_callV (y' := zmX6_isOpen) dX6_explore_269 zlX6_62 zmX6_isOpen_ok kM (by decide) rfl (c_X6_isOpen hgr ss2 oo2 stl (by omega) hbL hok.2 hok.1) rfl rfl (Nat.le_of_ble_eq_true rfl) ⟨Nat.le_of_ble_eq_true rfl, Nat.le_of_ble_eq_true rfl⟩ ⟨show uc + 1 ≤ RC by omega, show us + st.length ≤ RS by omega⟩ ?_
      intro v269 s269 q269
      obtain ⟨rfl, x1⟩ := q269
      replace yA := yA.tr x1.y
      replace hbe := hbe.x x1
      replace hob := hob.x x1
      replace hra := iII.x hra x1
      replace oo2 := oo2.x x1
      replace hA := hA.x x1
      replace hgr := hA.2.1
      replace kM := hgr.1
      refine zw_ifeq (tgt := 343) dX6_explore_272 (by decide) (fun c272 => ?_) (fun c272 => ?_)
      · exact absurd c272 (by rw [hv2]; decide)
      · refine zw_aload_n dX6_explore_275 rfl ?_
        refine zw_aload dX6_explore_276 rfl ?_
        refine zw_iload dX6_explore_278 rfl ?_
        refine zw_aload dX6_explore_280 rfl ?_
        refine zw_callV (y' := zmX6_done) dX6_explore_282 zlX6_43 zmX6_done_ok kM (by decide) rfl (c_X6_done_some hgr hbe oo2 hbl (by omega) hbL hok.2 hD) rfl rfl (Nat.le_of_ble_eq_true rfl) ⟨Nat.le_of_ble_eq_true rfl, Nat.le_of_ble_eq_true rfl⟩ ⟨show uc + 1 + 1 ≤ RC by omega, show us + st.length + beh.length ≤ RS by omega⟩ ?_
        intro v282 s282 q282
        obtain ⟨rfl, x2, n2, r2⟩ := q282
        replace yA := yA.tr x2.y
        replace hbe := hbe.x x2
        replace hob := hob.x x2
        replace hra := iII.x hra x2
        replace oo2 := oo2.x x2
        replace hA := hA.x x2
        replace hgr := hA.2.1
        replace kM := hgr.1
        refine zw_ifnonnull (tgt := 291) dX6_explore_285 (by decide) ?_
        refine zw_aload dX6_explore_291 rfl ?_
        refine zw_iconst (x := 5) dX6_explore_293 rfl ?_
        refine zw_newI (N := 5) dX6_explore_294 rfl (Nat.le_of_ble_eq_true rfl) ⟨show uc + 1 + 1 + 1 ≤ RC by omega, show us + st.length + beh.length + 5 ≤ RS by omega⟩ ?_
        have x3 : zX s282 (znA1 s282 0 5) := (zX.rf _).A1 0 5
        have a5 : iI (znA1 s282 0 5) (zn s282) [0, 0, 0, 0, 0] := iI_new (by have := hA.2.2.1.2.1; omega)
        have n3 : zn (znA1 s282 0 5) = zn s282 + 1 := rfl
        have hB := hA
        have hraB := hra
        replace yA := yA
        have yS := yA
        have dP : hHdP (fun b => b ≠ zn s282) (znA1 s282 0 5) rows := (hA.2.2.1.p (fun i hi => Nat.ne_of_lt hi)).x x3
        have gB : zG (znA1 s282 0 5) 6 5 30 = zG s282 6 5 30 := rfl
        have yB : zY s282 (znA1 s282 0 5) := x3.y
        generalize znA1 s282 0 5 = σ3 at x3 a5 n3 dP gB yB ⊢
        replace yA := yA.tr x3.y
        replace hbe := hbe.x x3
        replace hob := hob.x x3
        replace hra := iII.x hra x3
        replace oo2 := oo2.x x3
        replace hA := hA.x x3
        replace hgr := hA.2.1
        replace kM := hgr.1
        refine zw_dup dX6_explore_296 rfl ?_
        refine zw_iconst (x := 0) dX6_explore_297 rfl ?_
        refine zw_aload_n dX6_explore_298 rfl ?_
        refine zw_aload_n dX6_explore_299 rfl ?_
        refine zw_aload dX6_explore_300 rfl ?_
        refine zw_iload dX6_explore_302 rfl ?_
        refine zw_aload dX6_explore_304 rfl ?_
        refine zw_callV (y' := zmX6_done) dX6_explore_306 zlX6_43 zmX6_done_ok kM (by decide) rfl (c_X6_done_some hgr hbe oo2 hbl (by omega) hbL hok.2 hD) rfl rfl (Nat.le_of_ble_eq_true rfl) ⟨Nat.le_of_ble_eq_true rfl, Nat.le_of_ble_eq_true rfl⟩ ⟨show uc + 1 + 1 + 1 + 1 ≤ RC by omega, show us + st.length + beh.length + 5 + beh.length ≤ RS by omega⟩ ?_
        intro v306 s306 q306
        obtain ⟨rfl, x4, n4, r4⟩ := q306
        replace gB := (((x4.2 30 dP.2.1).2.2.2.2 6 5).2).trans gB
        replace a5 := a5.x x4
        replace dP := dP.x x4
        replace yB := yB.tr x4.y
        replace yA := yA.tr x4.y
        replace hbe := hbe.x x4
        replace hob := hob.x x4
        replace hra := iII.x hra x4
        replace oo2 := oo2.x x4
        replace hA := hA.x x4
        replace hgr := hA.2.1
        replace kM := hgr.1
        refine zw_iload dX6_explore_309 rfl ?_
        refine zw_aload dX6_explore_311 rfl ?_
        refine zw_alen (t := 4) dX6_explore_313 hra.1 (by decide) ?_
        rw [hra.2.2.2.1]
        refine zw_callV (y' := zmX6_number) dX6_explore_314 zlX6_58 zmX6_number_ok kM (by decide) rfl (c_X6_number_g (P := fun b => b ≠ zn s282) dP r4 (by omega) (fun i hi => by omega) (by omega) (by rw [hDn_len hD]; omega) (fun r hr => by rw [hrl r hr, hDn_len hD, hbl]) (hFx_none hT)) rfl rfl (Nat.le_of_ble_eq_true rfl) ⟨Nat.le_of_ble_eq_true rfl, Nat.le_of_ble_eq_true rfl⟩ ⟨show uc + 1 + 1 + 1 + 1 + 3 ≤ RC by omega, show us + st.length + beh.length + 5 + beh.length + 3 * (rows.length + 1) ≤ RS by omega⟩ ?_
        intro v314 s314 q314
        obtain ⟨rfl, y5, n5, d5, g5⟩ := q314
        replace a5 := a5.y y5
        replace yB := yB.tr y5
        replace gB := g5.trans gB
        replace dP := d5
        refine zw_iastore dX6_explore_317 a5.1 a5.2.1 (zin_of a5.2.2.2.1 (by unfold vp_in; decide)) ?_
        refine zw_dup dX6_explore_318 rfl ?_
        refine zw_iconst (x := 1) dX6_explore_319 rfl ?_
        refine zw_iload dX6_explore_320 rfl ?_
        refine zw_iastore dX6_explore_322 a5.1 a5.2.1 (zin_of a5.2.2.2.1 (by unfold vp_in; decide)) ?_
        refine zw_dup dX6_explore_323 rfl ?_
        refine zw_iconst (x := 2) dX6_explore_324 rfl ?_
        refine zw_iload dX6_explore_325 rfl ?_
        refine zw_iastore dX6_explore_327 a5.1 a5.2.1 (zin_of a5.2.2.2.1 (by unfold vp_in; decide)) ?_
        refine zw_dup dX6_explore_328 rfl ?_
        refine zw_iconst (x := 3) dX6_explore_329 rfl ?_
        refine zw_iload dX6_explore_330 rfl ?_
        refine zw_iastore dX6_explore_332 a5.1 a5.2.1 (zin_of a5.2.2.2.1 (by unfold vp_in; decide)) ?_
        refine zw_dup dX6_explore_333 rfl ?_
        refine zw_iconst (x := 4) dX6_explore_334 rfl ?_
        refine zw_iload dX6_explore_335 rfl ?_
        refine zw_iastore dX6_explore_337 a5.1 a5.2.1 (zin_of a5.2.2.2.1 (by unfold vp_in; decide)) ?_
        have aF := ((((a5.set (Int32.toNatClampNeg 0) (nI rows.length)).set (Int32.toNatClampNeg 1) (nI a)).set (Int32.toNatClampNeg 2) (nI m)).set (Int32.toNatClampNeg 3) (nI b)).set (Int32.toNatClampNeg 4) (nI k)
        have yF : zY s282 (zsI (zsI (zsI (zsI (zsI (s314) (zn s282) (Int32.toNatClampNeg 0) (nI rows.length)) (zn s282) (Int32.toNatClampNeg 1) (nI a)) (zn s282) (Int32.toNatClampNeg 2) (nI m)) (zn s282) (Int32.toNatClampNeg 3) (nI b)) (zn s282) (Int32.toNatClampNeg 4) (nI k)) := ((((yB.I (Nat.le_refl _)).I (Nat.le_refl _)).I (Nat.le_refl _)).I (Nat.le_refl _)).I (Nat.le_refl _)
        have dF : hHdP (fun b => b ≠ zn s282) (zsI (zsI (zsI (zsI (zsI (s314) (zn s282) (Int32.toNatClampNeg 0) (nI rows.length)) (zn s282) (Int32.toNatClampNeg 1) (nI a)) (zn s282) (Int32.toNatClampNeg 2) (nI m)) (zn s282) (Int32.toNatClampNeg 3) (nI b)) (zn s282) (Int32.toNatClampNeg 4) (nI k)) (rows ++ [t]) := hHdP.I (hHdP.I (hHdP.I (hHdP.I (hHdP.I dP))))
        have gF : zG (zsI (zsI (zsI (zsI (zsI (s314) (zn s282) (Int32.toNatClampNeg 0) (nI rows.length)) (zn s282) (Int32.toNatClampNeg 1) (nI a)) (zn s282) (Int32.toNatClampNeg 2) (nI m)) (zn s282) (Int32.toNatClampNeg 3) (nI b)) (zn s282) (Int32.toNatClampNeg 4) (nI k)) 6 5 30 = zG s282 6 5 30 := gB
        generalize zsI (zsI (zsI (zsI (zsI (s314) (zn s282) (Int32.toNatClampNeg 0) (nI rows.length)) (zn s282) (Int32.toNatClampNeg 1) (nI a)) (zn s282) (Int32.toNatClampNeg 2) (nI m)) (zn s282) (Int32.toNatClampNeg 3) (nI b)) (zn s282) (Int32.toNatClampNeg 4) (nI k) = σF at aF yF dF gF ⊢
        have raF := iII.y hraB yF
        have hAF := hB.num yF dF.hd gF
        replace yA := yS
        refine zw_callS (y' := zmX6_more_) dX6_explore_338 zlX6_51 zmX6_more__ok (c_X6_more_ raF aF (by omega)) rfl rfl (Nat.le_of_ble_eq_true rfl) ⟨Nat.le_of_ble_eq_true rfl, Nat.le_of_ble_eq_true rfl⟩ ⟨show uc + 1 + 1 + 1 + 1 + 3 + 1 ≤ RC by omega, show us + st.length + beh.length + 5 + beh.length + 3 * (rows.length + 1) + (rwl.length + 1) ≤ RS by omega⟩ ?_
        intro v338 s338 q338
        obtain ⟨rfl, x7, n7, r7⟩ := q338
        refine zw_astore dX6_explore_341 (by decide) rfl ?_
        have hl7 : (rwl ++ [((((([0, 0, 0, 0, 0] : List Int32).set (Int32.toNatClampNeg 0) (nI rows.length)).set (Int32.toNatClampNeg 1) (nI a)).set (Int32.toNatClampNeg 2) (nI m)).set (Int32.toNatClampNeg 3) (nI b)).set (Int32.toNatClampNeg 4) (nI k)]).length = rwl.length + 1 := by rw [List.length_append, List.length_singleton]
        have ht7 : hTri (rwl.length + 1) = hTri rwl.length + (rwl.length + 1) := rfl
        have hl8 : (rows ++ [t]).length = rows.length + 1 := by rw [List.length_append, List.length_singleton]
        refine zw_loc (lc' := [(0, .ref 30), (1, .int mo), (2, .int (nI L)), (4, .int (nI s)), (5, .ref (zn σF)), (6, .int (nI a)), (7, .int (nI m)), (8, .ref ob), (9, .ref be), (10, .int (nI b)), (11, .int (nI k))]) (zsub_cons rfl (zsub_cons rfl (zsub_cons rfl (zsub_cons rfl (zsub_cons rfl (zsub_cons rfl (zsub_cons rfl (zsub_cons rfl (zsub_cons rfl (zsub_cons rfl (zsub_cons rfl zsub_nil))))))))))) (KK _ (zn σF) _ _ _ (hAF.x x7) ((yA.tr yF).tr x7.y) r7 (Nat.le_of_eq hl7) ?_ ?_)
        · rw [hl8]; omega
        · rw [hl7, hl8, ht7]; omega
