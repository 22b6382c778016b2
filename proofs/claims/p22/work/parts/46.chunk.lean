/-! explore, one move of a process -/
set_option maxHeartbeats 4000000 in
set_option maxRecDepth 100000 in
theorem lp_ch_1 {l : Launch} {σ0 σ : zS} {RC RS L n s a m ra uc us : Nat} {mo : Int32} {G st : List Int32} {mvs : List (List hMv)} {ms : List hMv} {one : hMv} {rows rwl : List (List Int32)} {Q : Option Value → zS → Prop} (hA : hAll σ0 σ L G mvs rows n) (hrl : ∀ r, r ∈ rows → r.length = L + G.length) (h5 : L + G.length ≤ 5) (hst : rows[s]? = some st) (hra : iII σ ra rwl) (hma : mvs[a]? = some ms) (hk : ms[m]? = some one) (haL : a < L) (hmv : hMvs L G mvs) (hok : hMok L G one) (hn1 : rows.length + 6 * (L - (a + 1)) + 1 < 432) (hn2 : rwl.length + 6 * (L - (a + 1)) + 1 < 130) (hn3 : ms.length ≤ 6) (hR : uc + 4 + 48 * (L - (a + 1)) + 3 ≤ RC ∧ us + 10 + 1450 + 8700 * (L - (a + 1)) ≤ RS) (hv2 : hOpn L G st a one = false) (KK : ∀ σ' ra' rw' uc' us', hAll σ0 σ' L G mvs (rows) n → zY σ σ' → iII σ' ra' rw' → rw'.length ≤ rwl.length + 6 * (L - (a + 1)) + 1 → uc' + 3 * rows.length ≤ uc + 4 + 30 * (L - (a + 1)) + 3 * (rows).length → us' + hTri rwl.length + 1300 * rows.length ≤ us + 15 + 120 * (L - (a + 1)) + hTri rw'.length + 1300 * (rows).length → zAW l zmX6_explore { frames := 3, cells := RC, slots := RS, locals := 79 } 366 [(0, .ref 30), (1, .int mo), (2, .int (nI L)), (4, .int (nI s)), (5, .ref (ra')), (6, .int (nI a)), (7, .int (nI m))] [] σ' uc' us' Q) : zAW l zmX6_explore { frames := 3, cells := RC, slots := RS, locals := 79 } 100 [(0, .ref 30), (1, .int mo), (2, .int (nI L)), (4, .int (nI s)), (5, .ref (ra)), (6, .int (nI a)), (7, .int (nI m))] [] σ uc us Q := by
  have h30 := hA.2.2.1.2.1
  have kM := hA.2.2.1.1
  have hgr := hA.2.1
  obtain ⟨sa, sg, sI⟩ := hA.2.2.1.2.2.1
  obtain ⟨ma, mg, mI⟩ := hA.2.2.2.1
  obtain ⟨mb, mb1, mb2⟩ := mI.2.2.2.2 a _ hma
  obtain ⟨oo, oo1, oo2⟩ := mb2.2.2.2.2 m _ (show (ms.map hMv.row)[m]? = some one.row by rw [List.getElem?_map, hk]; rfl)
  obtain ⟨ss, ss1, ss2⟩ := sI.2.2.2.2 s _ hst
  have hkl := (List.getElem?_eq_some_iff.mp hk).1
  have hbm := (List.getElem?_eq_some_iff.mp hma).1
  have hn4 := hmv.1
  have hsl := (List.getElem?_eq_some_iff.mp hst).1
  have stl : st.length = L + G.length := hrl st (List.mem_of_getElem? hst)
  have yA : zY σ σ := zY.rf σ
  refine zw_aload_n dX6_explore_100 rfl ?_
  refine zw_getR dX6_explore_101 zfX6_21 rfl kM (by decide) mg ?_
  refine zw_iload dX6_explore_104 rfl ?_
  refine zw_aaload (t := 5) dX6_explore_106 mI.1 rfl (by decide) (zin_of mI.2.2.2.1 (vp_in_nI hbm (by omega))) ?_
  rw [nI_clamp (show a < 2 ^ 31 by omega), mb1]
  refine zw_iload dX6_explore_107 rfl ?_
  refine zw_aaload (t := 4) dX6_explore_109 mb2.1 rfl (by decide) (zin_of mb2.2.2.2.1 (vp_in_nI (by rw [List.length_map]; exact hkl) (by rw [List.length_map]; omega))) ?_
  rw [nI_clamp (show m < 2 ^ 31 by omega), oo1]
  refine zw_astore dX6_explore_110 (by decide) rfl ?_
  refine zw_aload_n dX6_explore_112 rfl ?_
  refine zw_aload_n dX6_explore_113 rfl ?_
  refine zw_getR dX6_explore_114 zfX6_25 rfl kM (by decide) sg ?_
  refine zw_iload dX6_explore_117 rfl ?_
  refine zw_aaload (t := 4) dX6_explore_119 sI.1 rfl (by decide) (zin_of sI.2.2.2.1 (vp_in_nI hsl (by omega))) ?_
  rw [nI_clamp (show s < 2 ^ 31 by omega), ss1]
  refine zw_iload dX6_explore_120 rfl ?_
  refine zw_aload dX6_explore_122 rfl ?_
  refine zw_callV (y' := zmX6_isOpen) dX6_explore_124 zlX6_62 zmX6_isOpen_ok kM (by decide) rfl (c_X6_isOpen hgr ss2 oo2 stl (by omega) haL hok.2 hok.1) rfl rfl (Nat.le_of_ble_eq_true rfl) ⟨Nat.le_of_ble_eq_true rfl, Nat.le_of_ble_eq_true rfl⟩ ⟨show uc + 1 ≤ RC by omega, show us + st.length ≤ RS by omega⟩ ?_
  intro v124 s124 q124
  obtain ⟨rfl, x1⟩ := q124
  replace yA := yA.tr x1.y
  replace hra := iII.x hra x1
  replace oo2 := oo2.x x1
  replace hA := hA.x x1
  replace hgr := hA.2.1
  replace kM := hgr.1
  refine zw_ifne (tgt := 133) dX6_explore_127 (by decide) (fun c127 => ?_) (fun c127 => ?_)
  · exact absurd (by rw [hv2]; rfl) c127
  · refine zw_goto (tgt := 366) dX6_explore_130 (by decide) ?_
    exact zw_loc (lc' := [(0, .ref 30), (1, .int mo), (2, .int (nI L)), (4, .int (nI s)), (5, .ref (ra)), (6, .int (nI a)), (7, .int (nI m))]) (zsub_cons rfl (zsub_cons rfl (zsub_cons rfl (zsub_cons rfl (zsub_cons rfl (zsub_cons rfl (zsub_cons rfl zsub_nil))))))) (KK _ ra rwl _ _ hA yA hra (by omega) (by omega) (by omega))
set_option maxHeartbeats 4000000 in
set_option maxRecDepth 100000 in
theorem lp_ch_2 {l : Launch} {σ0 σ : zS} {RC RS L n s a m ra uc us : Nat} {mo : Int32} {G st : List Int32} {mvs : List (List hMv)} {ms : List hMv} {one : hMv} {rows rwl : List (List Int32)} {Q : Option Value → zS → Prop} (hA : hAll σ0 σ L G mvs rows n) (hrl : ∀ r, r ∈ rows → r.length = L + G.length) (h5 : L + G.length ≤ 5) (hst : rows[s]? = some st) (hra : iII σ ra rwl) (hma : mvs[a]? = some ms) (hk : ms[m]? = some one) (haL : a < L) (hmv : hMvs L G mvs) (hok : hMok L G one) (hn1 : rows.length + 6 * (L - (a + 1)) + 1 < 432) (hn2 : rwl.length + 6 * (L - (a + 1)) + 1 < 130) (hn3 : ms.length ≤ 6) (hR : uc + 4 + 48 * (L - (a + 1)) + 3 ≤ RC ∧ us + 10 + 1450 + 8700 * (L - (a + 1)) ≤ RS) (hv2 : hOpn L G st a one = true) {t : List Int32} (hD : hDn L G st a one = some t) (hh : one.h = 0) {ix : Nat} (hix : hFx rows t (some ix)) (KK : ∀ σ' ra' rw' uc' us', hAll σ0 σ' L G mvs (rows) n → zY σ σ' → iII σ' ra' rw' → rw'.length ≤ rwl.length + 6 * (L - (a + 1)) + 1 → uc' + 3 * rows.length ≤ uc + 4 + 30 * (L - (a + 1)) + 3 * (rows).length → us' + hTri rwl.length + 1300 * rows.length ≤ us + 15 + 120 * (L - (a + 1)) + hTri rw'.length + 1300 * (rows).length → zAW l zmX6_explore { frames := 3, cells := RC, slots := RS, locals := 79 } 355 [(0, .ref 30), (1, .int mo), (2, .int (nI L)), (4, .int (nI s)), (5, .ref (ra')), (6, .int (nI a)), (7, .int (nI m))] [] σ' uc' us' Q) : zAW l zmX6_explore { frames := 3, cells := RC, slots := RS, locals := 79 } 100 [(0, .ref 30), (1, .int mo), (2, .int (nI L)), (4, .int (nI s)), (5, .ref (ra)), (6, .int (nI a)), (7, .int (nI m))] [] σ uc us Q := by
  have h30 := hA.2.2.1.2.1
  have kM := hA.2.2.1.1
  have hgr := hA.2.1
  obtain ⟨sa, sg, sI⟩ := hA.2.2.1.2.2.1
  obtain ⟨ma, mg, mI⟩ := hA.2.2.2.1
  obtain ⟨mb, mb1, mb2⟩ := mI.2.2.2.2 a _ hma
  obtain ⟨oo, oo1, oo2⟩ := mb2.2.2.2.2 m _ (show (ms.map hMv.row)[m]? = some one.row by rw [List.getElem?_map, hk]; rfl)
  obtain ⟨ss, ss1, ss2⟩ := sI.2.2.2.2 s _ hst
  have hkl := (List.getElem?_eq_some_iff.mp hk).1
  have hbm := (List.getElem?_eq_some_iff.mp hma).1
  have hn4 := hmv.1
  have hsl := (List.getElem?_eq_some_iff.mp hst).1
  have stl : st.length = L + G.length := hrl st (List.mem_of_getElem? hst)
  have yA : zY σ σ := zY.rf σ
  refine zw_aload_n dX6_explore_100 rfl ?_
  refine zw_getR dX6_explore_101 zfX6_21 rfl kM (by decide) mg ?_
  refine zw_iload dX6_explore_104 rfl ?_
  refine zw_aaload (t := 5) dX6_explore_106 mI.1 rfl (by decide) (zin_of mI.2.2.2.1 (vp_in_nI hbm (by omega))) ?_
  rw [nI_clamp (show a < 2 ^ 31 by omega), mb1]
  refine zw_iload dX6_explore_107 rfl ?_
  refine zw_aaload (t := 4) dX6_explore_109 mb2.1 rfl (by decide) (zin_of mb2.2.2.2.1 (vp_in_nI (by rw [List.length_map]; exact hkl) (by rw [List.length_map]; omega))) ?_
  rw [nI_clamp (show m < 2 ^ 31 by omega), oo1]
  refine zw_astore dX6_explore_110 (by decide) rfl ?_
  refine zw_aload_n dX6_explore_112 rfl ?_
  refine zw_aload_n dX6_explore_113 rfl ?_
  refine zw_getR dX6_explore_114 zfX6_25 rfl kM (by decide) sg ?_
  refine zw_iload dX6_explore_117 rfl ?_
  refine zw_aaload (t := 4) dX6_explore_119 sI.1 rfl (by decide) (zin_of sI.2.2.2.1 (vp_in_nI hsl (by omega))) ?_
  rw [nI_clamp (show s < 2 ^ 31 by omega), ss1]
  refine zw_iload dX6_explore_120 rfl ?_
  refine zw_aload dX6_explore_122 rfl ?_
  refine zw_callV (y' := zmX6_isOpen) dX6_explore_124 zlX6_62 zmX6_isOpen_ok kM (by decide) rfl (c_X6_isOpen hgr ss2 oo2 stl (by omega) haL hok.2 hok.1) rfl rfl (Nat.le_of_ble_eq_true rfl) ⟨Nat.le_of_ble_eq_true rfl, Nat.le_of_ble_eq_true rfl⟩ ⟨show uc + 1 ≤ RC by omega, show us + st.length ≤ RS by omega⟩ ?_
  intro v124 s124 q124
  obtain ⟨rfl, x1⟩ := q124
  replace yA := yA.tr x1.y
  replace hra := iII.x hra x1
  replace oo2 := oo2.x x1
  replace hA := hA.x x1
  replace hgr := hA.2.1
  replace kM := hgr.1
  refine zw_ifne (tgt := 133) dX6_explore_127 (by decide) (fun c127 => ?_) (fun c127 => ?_)
  · clear sg sI ss1 ss2
    obtain ⟨sa, sg, sI⟩ := hA.2.2.1.2.2.1
    obtain ⟨ss, ss1, ss2⟩ := sI.2.2.2.2 s _ hst
    refine zw_aload_n dX6_explore_133 rfl ?_
    refine zw_aload_n dX6_explore_134 rfl ?_
    refine zw_getR dX6_explore_135 zfX6_25 rfl kM (by decide) sg ?_
    refine zw_iload dX6_explore_138 rfl ?_
    refine zw_aaload (t := 4) dX6_explore_140 sI.1 rfl (by decide) (zin_of sI.2.2.2.1 (vp_in_nI hsl (by omega))) ?_
    rw [nI_clamp (show s < 2 ^ 31 by omega), ss1]
    refine zw_iload dX6_explore_141 rfl ?_
    refine zw_aload dX6_explore_143 rfl ?_
    refine zw_callV (y' := zmX6_done) dX6_explore_145 zlX6_43 zmX6_done_ok kM (by decide) rfl (c_X6_done_some hgr ss2 oo2 stl (by omega) haL hok.2 hD) rfl rfl (Nat.le_of_ble_eq_true rfl) ⟨Nat.le_of_ble_eq_true rfl, Nat.le_of_ble_eq_true rfl⟩ ⟨show uc + 1 + 1 ≤ RC by omega, show us + st.length + st.length ≤ RS by omega⟩ ?_
    intro v145 s145 q145
    obtain ⟨rfl, x2, n2, hbe⟩ := q145
    replace yA := yA.tr x2.y
    replace hra := iII.x hra x2
    replace oo2 := oo2.x x2
    replace hA := hA.x x2
    replace hgr := hA.2.1
    replace kM := hgr.1
    refine zw_astore dX6_explore_148 (by decide) rfl ?_
    refine zw_aload dX6_explore_150 rfl ?_
    refine zw_iconst (x := 2) dX6_explore_152 rfl ?_
    refine zw_iaload dX6_explore_153 oo2.1 (nI_10 (by unfold vp_in; decide) oo2) ?_
    rw [hrow_2 oo2]
    refine zw_ifne (tgt := 199) dX6_explore_154 (by decide) (fun c154 => ?_) (fun c154 => ?_)
    · exact absurd hh c154
    · refine zw_aload dX6_explore_157 rfl ?_
      refine zw_iconst (x := 5) dX6_explore_159 rfl ?_
      refine zw_newI (N := 5) dX6_explore_160 rfl (Nat.le_of_ble_eq_true rfl) ⟨show uc + 1 + 1 + 1 ≤ RC by omega, show us + st.length + st.length + 5 ≤ RS by omega⟩ ?_
      have x3 : zX s145 (znA1 s145 0 5) := (zX.rf _).A1 0 5
      have a5 : iI (znA1 s145 0 5) (zn s145) [0, 0, 0, 0, 0] := iI_new (by have := hA.2.2.1.2.1; omega)
      have n3 : zn (znA1 s145 0 5) = zn s145 + 1 := rfl
      have hB := hA
      have hraB := hra
      have hbl := hbe.2.2.1
      have ooB := oo2
      have yS := yA
      have dP : hHdP (fun b => b ≠ zn s145) (znA1 s145 0 5) rows := (hA.2.2.1.p (fun i hi => Nat.ne_of_lt hi)).x x3
      have gB : zG (znA1 s145 0 5) 6 5 30 = zG s145 6 5 30 := rfl
      have yB : zY s145 (znA1 s145 0 5) := x3.y
      generalize znA1 s145 0 5 = σ3 at x3 a5 n3 dP gB yB ⊢
      replace yA := yA.tr x3.y
      replace hbe := hbe.x x3
      replace hra := iII.x hra x3
      replace oo2 := oo2.x x3
      replace hA := hA.x x3
      replace hgr := hA.2.1
      replace kM := hgr.1
      refine zw_dup dX6_explore_162 rfl ?_
      refine zw_iconst (x := 0) dX6_explore_163 rfl ?_
      refine zw_aload_n dX6_explore_164 rfl ?_
      refine zw_aload dX6_explore_165 rfl ?_
      refine zw_iload dX6_explore_167 rfl ?_
      refine zw_aload dX6_explore_169 rfl ?_
      refine zw_alen (t := 4) dX6_explore_171 hra.1 (by decide) ?_
      rw [hra.2.2.2.1]
      refine zw_callV (y' := zmX6_number) dX6_explore_172 zlX6_58 zmX6_number_ok kM (by decide) rfl (c_X6_number_old hA.2.2.1 hbe (by omega) (by rw [hDn_len hD]; omega) (fun r hr => by rw [hrl r hr, hDn_len hD, stl]) hix) rfl rfl (Nat.le_of_ble_eq_true rfl) ⟨Nat.le_of_ble_eq_true rfl, Nat.le_of_ble_eq_true rfl⟩ ⟨show uc + 1 + 1 + 1 + 0 ≤ RC by omega, show us + st.length + st.length + 5 + 0 ≤ RS by omega⟩ ?_
      intro v172 s172 q172
      obtain ⟨rfl, z172⟩ := q172
      rw [z172]
      clear z172
      refine zw_iastore dX6_explore_175 a5.1 a5.2.1 (zin_of a5.2.2.2.1 (by unfold vp_in; decide)) ?_
      refine zw_dup dX6_explore_176 rfl ?_
      refine zw_iconst (x := 1) dX6_explore_177 rfl ?_
      refine zw_iload dX6_explore_178 rfl ?_
      refine zw_iastore dX6_explore_180 a5.1 a5.2.1 (zin_of a5.2.2.2.1 (by unfold vp_in; decide)) ?_
      refine zw_dup dX6_explore_181 rfl ?_
      refine zw_iconst (x := 2) dX6_explore_182 rfl ?_
      refine zw_iload dX6_explore_183 rfl ?_
      refine zw_iastore dX6_explore_185 a5.1 a5.2.1 (zin_of a5.2.2.2.1 (by unfold vp_in; decide)) ?_
      refine zw_dup dX6_explore_186 rfl ?_
      refine zw_iconst (x := 3) dX6_explore_187 rfl ?_
      refine zw_iconst (x := -1) dX6_explore_188 rfl ?_
      refine zw_iastore dX6_explore_189 a5.1 a5.2.1 (zin_of a5.2.2.2.1 (by unfold vp_in; decide)) ?_
      refine zw_dup dX6_explore_190 rfl ?_
      refine zw_iconst (x := 4) dX6_explore_191 rfl ?_
      refine zw_iconst (x := -1) dX6_explore_192 rfl ?_
      refine zw_iastore dX6_explore_193 a5.1 a5.2.1 (zin_of a5.2.2.2.1 (by unfold vp_in; decide)) ?_
      have aF := ((((a5.set (Int32.toNatClampNeg 0) (nI ix)).set (Int32.toNatClampNeg 1) (nI a)).set (Int32.toNatClampNeg 2) (nI m)).set (Int32.toNatClampNeg 3) (-1)).set (Int32.toNatClampNeg 4) (-1)
      have yF : zY s145 (zsI (zsI (zsI (zsI (zsI (σ3) (zn s145) (Int32.toNatClampNeg 0) (nI ix)) (zn s145) (Int32.toNatClampNeg 1) (nI a)) (zn s145) (Int32.toNatClampNeg 2) (nI m)) (zn s145) (Int32.toNatClampNeg 3) (-1)) (zn s145) (Int32.toNatClampNeg 4) (-1)) := ((((yB.I (Nat.le_refl _)).I (Nat.le_refl _)).I (Nat.le_refl _)).I (Nat.le_refl _)).I (Nat.le_refl _)
      have dF : hHdP (fun b => b ≠ zn s145) (zsI (zsI (zsI (zsI (zsI (σ3) (zn s145) (Int32.toNatClampNeg 0) (nI ix)) (zn s145) (Int32.toNatClampNeg 1) (nI a)) (zn s145) (Int32.toNatClampNeg 2) (nI m)) (zn s145) (Int32.toNatClampNeg 3) (-1)) (zn s145) (Int32.toNatClampNeg 4) (-1)) (rows) := hHdP.I (hHdP.I (hHdP.I (hHdP.I (hHdP.I dP))))
      have gF : zG (zsI (zsI (zsI (zsI (zsI (σ3) (zn s145) (Int32.toNatClampNeg 0) (nI ix)) (zn s145) (Int32.toNatClampNeg 1) (nI a)) (zn s145) (Int32.toNatClampNeg 2) (nI m)) (zn s145) (Int32.toNatClampNeg 3) (-1)) (zn s145) (Int32.toNatClampNeg 4) (-1)) 6 5 30 = zG s145 6 5 30 := gB
      generalize zsI (zsI (zsI (zsI (zsI (σ3) (zn s145) (Int32.toNatClampNeg 0) (nI ix)) (zn s145) (Int32.toNatClampNeg 1) (nI a)) (zn s145) (Int32.toNatClampNeg 2) (nI m)) (zn s145) (Int32.toNatClampNeg 3) (-1)) (zn s145) (Int32.toNatClampNeg 4) (-1) = σF at aF yF dF gF ⊢
      have raF := iII.y hraB yF
      have ooF := ooB.y yF
      have hAF := hB.num yF dF.hd gF
      have kF := dF.1
      replace yA := yS
      refine zw_callS (y' := zmX6_more_) dX6_explore_194 zlX6_51 zmX6_more__ok (c_X6_more_ raF aF (by omega)) rfl rfl (Nat.le_of_ble_eq_true rfl) ⟨Nat.le_of_ble_eq_true rfl, Nat.le_of_ble_eq_true rfl⟩ ⟨show uc + 1 + 1 + 1 + 0 + 1 ≤ RC by omega, show us + st.length + st.length + 5 + 0 + (rwl.length + 1) ≤ RS by omega⟩ ?_
      intro v194 s194 q194
      obtain ⟨rfl, x7, n7, r7⟩ := q194
      have oo7 := ooF.x x7
      have k7 : zK s194 30 = 6 := ((x7.2 30 dF.2.1).1).trans kF
      refine zw_astore dX6_explore_197 (by decide) rfl ?_
      refine zw_iload dX6_explore_199 rfl ?_
      refine zw_iconst (x := 1) dX6_explore_201 rfl ?_
      refine zw_iadd dX6_explore_202 ?_
      rw [nI_1]
      refine zw_istore dX6_explore_203 (by decide) rfl ?_
      refine zw_iload dX6_explore_205 rfl ?_
      refine zw_iload_n dX6_explore_207 rfl ?_
      refine zw_icmpge (tgt := 355) dX6_explore_208 (by decide) (fun c208 => ?_) (fun c208 => ?_)
      · have hl7 : (rwl ++ [((((([0, 0, 0, 0, 0] : List Int32).set (Int32.toNatClampNeg 0) (nI ix)).set (Int32.toNatClampNeg 1) (nI a)).set (Int32.toNatClampNeg 2) (nI m)).set (Int32.toNatClampNeg 3) (-1)).set (Int32.toNatClampNeg 4) (-1)]).length = rwl.length + 1 := by rw [List.length_append, List.length_singleton]
        have ht7 : hTri (rwl.length + 1) = hTri rwl.length + (rwl.length + 1) := rfl
        have hl8 : (rows).length = rows.length := rfl
        refine zw_loc (lc' := [(0, .ref 30), (1, .int mo), (2, .int (nI L)), (4, .int (nI s)), (5, .ref (zn σF)), (6, .int (nI a)), (7, .int (nI m))]) (zsub_cons rfl (zsub_cons rfl (zsub_cons rfl (zsub_cons rfl (zsub_cons rfl (zsub_cons rfl (zsub_cons rfl zsub_nil))))))) (KK _ (zn σF) _ _ _ (hAF.x x7) ((yA.tr yF).tr x7.y) r7 (by rw [hl7]; omega) ?_ ?_)
        · rw [hl8]; omega
        · rw [hl7, hl8, ht7]; omega
      · refine zw_aload dX6_explore_211 rfl ?_
        refine zw_iconst (x := 2) dX6_explore_213 rfl ?_
        refine zw_iaload dX6_explore_214 oo7.1 (nI_10 (by unfold vp_in; decide) oo7) ?_
        rw [hrow_2 oo7]
        refine zw_ifle (tgt := 355) dX6_explore_215 (by decide) (fun c215 => ?_) (fun c215 => ?_)
        · have hl7 : (rwl ++ [((((([0, 0, 0, 0, 0] : List Int32).set (Int32.toNatClampNeg 0) (nI ix)).set (Int32.toNatClampNeg 1) (nI a)).set (Int32.toNatClampNeg 2) (nI m)).set (Int32.toNatClampNeg 3) (-1)).set (Int32.toNatClampNeg 4) (-1)]).length = rwl.length + 1 := by rw [List.length_append, List.length_singleton]
          have ht7 : hTri (rwl.length + 1) = hTri rwl.length + (rwl.length + 1) := rfl
          have hl8 : (rows).length = rows.length := rfl
          refine zw_loc (lc' := [(0, .ref 30), (1, .int mo), (2, .int (nI L)), (4, .int (nI s)), (5, .ref (zn σF)), (6, .int (nI a)), (7, .int (nI m))]) (zsub_cons rfl (zsub_cons rfl (zsub_cons rfl (zsub_cons rfl (zsub_cons rfl (zsub_cons rfl (zsub_cons rfl zsub_nil))))))) (KK _ (zn σF) _ _ _ (hAF.x x7) ((yA.tr yF).tr x7.y) r7 (by rw [hl7]; omega) ?_ ?_)
          · rw [hl8]; omega
          · rw [hl7, hl8, ht7]; omega
        · exact absurd (show one.h ≤ 0 by rw [hh]; decide) c215
  · exact absurd c127 (by rw [hv2]; decide)
set_option maxHeartbeats 4000000 in
set_option maxRecDepth 100000 in
theorem lp_ch_3 {l : Launch} {σ0 σ : zS} {RC RS L n s a m ra uc us : Nat} {mo : Int32} {G st : List Int32} {mvs : List (List hMv)} {ms : List hMv} {one : hMv} {rows rwl : List (List Int32)} {Q : Option Value → zS → Prop} (hA : hAll σ0 σ L G mvs rows n) (hrl : ∀ r, r ∈ rows → r.length = L + G.length) (h5 : L + G.length ≤ 5) (hst : rows[s]? = some st) (hra : iII σ ra rwl) (hma : mvs[a]? = some ms) (hk : ms[m]? = some one) (haL : a < L) (hmv : hMvs L G mvs) (hok : hMok L G one) (hn1 : rows.length + 6 * (L - (a + 1)) + 1 < 432) (hn2 : rwl.length + 6 * (L - (a + 1)) + 1 < 130) (hn3 : ms.length ≤ 6) (hR : uc + 4 + 48 * (L - (a + 1)) + 3 ≤ RC ∧ us + 10 + 1450 + 8700 * (L - (a + 1)) ≤ RS) (hv2 : hOpn L G st a one = true) {t : List Int32} (hD : hDn L G st a one = some t) (hh : one.h = 0) (hT : t ∉ rows) (KK : ∀ σ' ra' rw' uc' us', hAll σ0 σ' L G mvs (rows ++ [t]) n → zY σ σ' → iII σ' ra' rw' → rw'.length ≤ rwl.length + 6 * (L - (a + 1)) + 1 → uc' + 3 * rows.length ≤ uc + 4 + 30 * (L - (a + 1)) + 3 * (rows ++ [t]).length → us' + hTri rwl.length + 1300 * rows.length ≤ us + 15 + 120 * (L - (a + 1)) + hTri rw'.length + 1300 * (rows ++ [t]).length → zAW l zmX6_explore { frames := 3, cells := RC, slots := RS, locals := 79 } 355 [(0, .ref 30), (1, .int mo), (2, .int (nI L)), (4, .int (nI s)), (5, .ref (ra')), (6, .int (nI a)), (7, .int (nI m))] [] σ' uc' us' Q) : zAW l zmX6_explore { frames := 3, cells := RC, slots := RS, locals := 79 } 100 [(0, .ref 30), (1, .int mo), (2, .int (nI L)), (4, .int (nI s)), (5, .ref (ra)), (6, .int (nI a)), (7, .int (nI m))] [] σ uc us Q := by
  have h30 := hA.2.2.1.2.1
  have kM := hA.2.2.1.1
  have hgr := hA.2.1
  obtain ⟨sa, sg, sI⟩ := hA.2.2.1.2.2.1
  obtain ⟨ma, mg, mI⟩ := hA.2.2.2.1
  obtain ⟨mb, mb1, mb2⟩ := mI.2.2.2.2 a _ hma
  obtain ⟨oo, oo1, oo2⟩ := mb2.2.2.2.2 m _ (show (ms.map hMv.row)[m]? = some one.row by rw [List.getElem?_map, hk]; rfl)
  obtain ⟨ss, ss1, ss2⟩ := sI.2.2.2.2 s _ hst
  have hkl := (List.getElem?_eq_some_iff.mp hk).1
  have hbm := (List.getElem?_eq_some_iff.mp hma).1
  have hn4 := hmv.1
  have hsl := (List.getElem?_eq_some_iff.mp hst).1
  have stl : st.length = L + G.length := hrl st (List.mem_of_getElem? hst)
  have yA : zY σ σ := zY.rf σ
  refine zw_aload_n dX6_explore_100 rfl ?_
  refine zw_getR dX6_explore_101 zfX6_21 rfl kM (by decide) mg ?_
  refine zw_iload dX6_explore_104 rfl ?_
  refine zw_aaload (t := 5) dX6_explore_106 mI.1 rfl (by decide) (zin_of mI.2.2.2.1 (vp_in_nI hbm (by omega))) ?_
  rw [nI_clamp (show a < 2 ^ 31 by omega), mb1]
  refine zw_iload dX6_explore_107 rfl ?_
  refine zw_aaload (t := 4) dX6_explore_109 mb2.1 rfl (by decide) (zin_of mb2.2.2.2.1 (vp_in_nI (by rw [List.length_map]; exact hkl) (by rw [List.length_map]; omega))) ?_
  rw [nI_clamp (show m < 2 ^ 31 by omega), oo1]
  refine zw_astore dX6_explore_110 (by decide) rfl ?_
  refine zw_aload_n dX6_explore_112 rfl ?_
  refine zw_aload_n dX6_explore_113 rfl ?_
  refine zw_getR dX6_explore_114 zfX6_25 rfl kM (by decide) sg ?_
  refine zw_iload dX6_explore_117 rfl ?_
  refine zw_aaload (t := 4) dX6_explore_119 sI.1 rfl (by decide) (zin_of sI.2.2.2.1 (vp_in_nI hsl (by omega))) ?_
  rw [nI_clamp (show s < 2 ^ 31 by omega), ss1]
  refine zw_iload dX6_explore_120 rfl ?_
  refine zw_aload dX6_explore_122 rfl ?_
  refine zw_callV (y' := zmX6_isOpen) dX6_explore_124 zlX6_62 zmX6_isOpen_ok kM (by decide) rfl (c_X6_isOpen hgr ss2 oo2 stl (by omega) haL hok.2 hok.1) rfl rfl (Nat.le_of_ble_eq_true rfl) ⟨Nat.le_of_ble_eq_true rfl, Nat.le_of_ble_eq_true rfl⟩ ⟨show uc + 1 ≤ RC by omega, show us + st.length ≤ RS by omega⟩ ?_
  intro v124 s124 q124
  obtain ⟨rfl, x1⟩ := q124
  replace yA := yA.tr x1.y
  replace hra := iII.x hra x1
  replace oo2 := oo2.x x1
  replace hA := hA.x x1
  replace hgr := hA.2.1
  replace kM := hgr.1
  refine zw_ifne (tgt := 133) dX6_explore_127 (by decide) (fun c127 => ?_) (fun c127 => ?_)
  · clear sg sI ss1 ss2
    obtain ⟨sa, sg, sI⟩ := hA.2.2.1.2.2.1
    obtain ⟨ss, ss1, ss2⟩ := sI.2.2.2.2 s _ hst
    refine zw_aload_n dX6_explore_133 rfl ?_
    refine zw_aload_n dX6_explore_134 rfl ?_
    refine zw_getR dX6_explore_135 zfX6_25 rfl kM (by decide) sg ?_
    refine zw_iload dX6_explore_138 rfl ?_
    refine zw_aaload (t := 4) dX6_explore_140 sI.1 rfl (by decide) (zin_of sI.2.2.2.1 (vp_in_nI hsl (by omega))) ?_
    rw [nI_clamp (show s < 2 ^ 31 by omega), ss1]
    refine zw_iload dX6_explore_141 rfl ?_
    refine zw_aload dX6_explore_143 rfl ?_
    refine zw_callV (y' := zmX6_done) dX6_explore_145 zlX6_43 zmX6_done_ok kM (by decide) rfl (c_X6_done_some hgr ss2 oo2 stl (by omega) haL hok.2 hD) rfl rfl (Nat.le_of_ble_eq_true rfl) ⟨Nat.le_of_ble_eq_true rfl, Nat.le_of_ble_eq_true rfl⟩ ⟨show uc + 1 + 1 ≤ RC by omega, show us + st.length + st.length ≤ RS by omega⟩ ?_
    intro v145 s145 q145
    obtain ⟨rfl, x2, n2, hbe⟩ := q145
    replace yA := yA.tr x2.y
    replace hra := iII.x hra x2
    replace oo2 := oo2.x x2
    replace hA := hA.x x2
    replace hgr := hA.2.1
    replace kM := hgr.1
    refine zw_astore dX6_explore_148 (by decide) rfl ?_
    refine zw_aload dX6_explore_150 rfl ?_
    refine zw_iconst (x := 2) dX6_explore_152 rfl ?_
    refine zw_iaload dX6_explore_153 oo2.1 (nI_10 (by unfold vp_in; decide) oo2) ?_
    rw [hrow_2 oo2]
    refine zw_ifne (tgt := 199) dX6_explore_154 (by decide) (fun c154 => ?_) (fun c154 => ?_)
    · exact absurd hh c154
    · refine zw_aload dX6_explore_157 rfl ?_
      refine zw_iconst (x := 5) dX6_explore_159 rfl ?_
      refine zw_newI (N := 5) dX6_explore_160 rfl (Nat.le_of_ble_eq_true rfl) ⟨show uc + 1 + 1 + 1 ≤ RC by omega, show us + st.length + st.length + 5 ≤ RS by omega⟩ ?_
      have x3 : zX s145 (znA1 s145 0 5) := (zX.rf _).A1 0 5
      have a5 : iI (znA1 s145 0 5) (zn s145) [0, 0, 0, 0, 0] := iI_new (by have := hA.2.2.1.2.1; omega)
      have n3 : zn (znA1 s145 0 5) = zn s145 + 1 := rfl
      have hB := hA
      have hraB := hra
      have hbl := hbe.2.2.1
      have ooB := oo2
      have yS := yA
      have dP : hHdP (fun b => b ≠ zn s145) (znA1 s145 0 5) rows := (hA.2.2.1.p (fun i hi => Nat.ne_of_lt hi)).x x3
      have gB : zG (znA1 s145 0 5) 6 5 30 = zG s145 6 5 30 := rfl
      have yB : zY s145 (znA1 s145 0 5) := x3.y
      generalize znA1 s145 0 5 = σ3 at x3 a5 n3 dP gB yB ⊢
      replace yA := yA.tr x3.y
      replace hbe := hbe.x x3
      replace hra := iII.x hra x3
      replace oo2 := oo2.x x3
      replace hA := hA.x x3
      replace hgr := hA.2.1
      replace kM := hgr.1
      refine zw_dup dX6_explore_162 rfl ?_
      refine zw_iconst (x := 0) dX6_explore_163 rfl ?_
      refine zw_aload_n dX6_explore_164 rfl ?_
      refine zw_aload dX6_explore_165 rfl ?_
      refine zw_iload dX6_explore_167 rfl ?_
      refine zw_aload dX6_explore_169 rfl ?_
      refine zw_alen (t := 4) dX6_explore_171 hra.1 (by decide) ?_
      rw [hra.2.2.2.1]
      refine zw_callV (y' := zmX6_number) dX6_explore_172 zlX6_58 zmX6_number_ok kM (by decide) rfl (c_X6_number_g (P := fun b => b ≠ zn s145) dP hbe (by omega) (fun i hi => by omega) (by omega) (by rw [hDn_len hD]; omega) (fun r hr => by rw [hrl r hr, hDn_len hD, stl]) (hFx_none hT)) rfl rfl (Nat.le_of_ble_eq_true rfl) ⟨Nat.le_of_ble_eq_true rfl, Nat.le_of_ble_eq_true rfl⟩ ⟨show uc + 1 + 1 + 1 + 3 ≤ RC by omega, show us + st.length + st.length + 5 + 3 * (rows.length + 1) ≤ RS by omega⟩ ?_
      intro v172 s172 q172
      obtain ⟨rfl, y5, n5, d5, g5⟩ := q172
      replace a5 := a5.y y5
      replace yB := yB.tr y5
      replace gB := g5.trans gB
      replace dP := d5
      refine zw_iastore dX6_explore_175 a5.1 a5.2.1 (zin_of a5.2.2.2.1 (by unfold vp_in; decide)) ?_
      refine zw_dup dX6_explore_176 rfl ?_
      refine zw_iconst (x := 1) dX6_explore_177 rfl ?_
      refine zw_iload dX6_explore_178 rfl ?_
      refine zw_iastore dX6_explore_180 a5.1 a5.2.1 (zin_of a5.2.2.2.1 (by unfold vp_in; decide)) ?_
      refine zw_dup dX6_explore_181 rfl ?_
      refine zw_iconst (x := 2) dX6_explore_182 rfl ?_
      refine zw_iload dX6_explore_183 rfl ?_
      refine zw_iastore dX6_explore_185 a5.1 a5.2.1 (zin_of a5.2.2.2.1 (by unfold vp_in; decide)) ?_
      refine zw_dup dX6_explore_186 rfl ?_
      refine zw_iconst (x := 3) dX6_explore_187 rfl ?_
      refine zw_iconst (x := -1) dX6_explore_188 rfl ?_
      refine zw_iastore dX6_explore_189 a5.1 a5.2.1 (zin_of a5.2.2.2.1 (by unfold vp_in; decide)) ?_
      refine zw_dup dX6_explore_190 rfl ?_
      refine zw_iconst (x := 4) dX6_explore_191 rfl ?_
      refine zw_iconst (x := -1) dX6_explore_192 rfl ?_
      refine zw_iastore dX6_explore_193 a5.1 a5.2.1 (zin_of a5.2.2.2.1 (by unfold vp_in; decide)) ?_
      have aF := ((((a5.set (Int32.toNatClampNeg 0) (nI rows.length)).set (Int32.toNatClampNeg 1) (nI a)).set (Int32.toNatClampNeg 2) (nI m)).set (Int32.toNatClampNeg 3) (-1)).set (Int32.toNatClampNeg 4) (-1)
      have yF : zY s145 (zsI (zsI (zsI (zsI (zsI (s172) (zn s145) (Int32.toNatClampNeg 0) (nI rows.length)) (zn s145) (Int32.toNatClampNeg 1) (nI a)) (zn s145) (Int32.toNatClampNeg 2) (nI m)) (zn s145) (Int32.toNatClampNeg 3) (-1)) (zn s145) (Int32.toNatClampNeg 4) (-1)) := ((((yB.I (Nat.le_refl _)).I (Nat.le_refl _)).I (Nat.le_refl _)).I (Nat.le_refl _)).I (Nat.le_refl _)
      have dF : hHdP (fun b => b ≠ zn s145) (zsI (zsI (zsI (zsI (zsI (s172) (zn s145) (Int32.toNatClampNeg 0) (nI rows.length)) (zn s145) (Int32.toNatClampNeg 1) (nI a)) (zn s145) (Int32.toNatClampNeg 2) (nI m)) (zn s145) (Int32.toNatClampNeg 3) (-1)) (zn s145) (Int32.toNatClampNeg 4) (-1)) (rows ++ [t]) := hHdP.I (hHdP.I (hHdP.I (hHdP.I (hHdP.I dP))))
      have gF : zG (zsI (zsI (zsI (zsI (zsI (s172) (zn s145) (Int32.toNatClampNeg 0) (nI rows.length)) (zn s145) (Int32.toNatClampNeg 1) (nI a)) (zn s145) (Int32.toNatClampNeg 2) (nI m)) (zn s145) (Int32.toNatClampNeg 3) (-1)) (zn s145) (Int32.toNatClampNeg 4) (-1)) 6 5 30 = zG s145 6 5 30 := gB
      generalize zsI (zsI (zsI (zsI (zsI (s172) (zn s145) (Int32.toNatClampNeg 0) (nI rows.length)) (zn s145) (Int32.toNatClampNeg 1) (nI a)) (zn s145) (Int32.toNatClampNeg 2) (nI m)) (zn s145) (Int32.toNatClampNeg 3) (-1)) (zn s145) (Int32.toNatClampNeg 4) (-1) = σF at aF yF dF gF ⊢
      have raF := iII.y hraB yF
      have ooF := ooB.y yF
      have hAF := hB.num yF dF.hd gF
      have kF := dF.1
      replace yA := yS
      refine zw_callS (y' := zmX6_more_) dX6_explore_194 zlX6_51 zmX6_more__ok (c_X6_more_ raF aF (by omega)) rfl rfl (Nat.le_of_ble_eq_true rfl) ⟨Nat.le_of_ble_eq_true rfl, Nat.le_of_ble_eq_true rfl⟩ ⟨show uc + 1 + 1 + 1 + 3 + 1 ≤ RC by omega, show us + st.length + st.length + 5 + 3 * (rows.length + 1) + (rwl.length + 1) ≤ RS by omega⟩ ?_
      intro v194 s194 q194
      obtain ⟨rfl, x7, n7, r7⟩ := q194
      have oo7 := ooF.x x7
      have k7 : zK s194 30 = 6 := ((x7.2 30 dF.2.1).1).trans kF
      refine zw_astore dX6_explore_197 (by decide) rfl ?_
      refine zw_iload dX6_explore_199 rfl ?_
      refine zw_iconst (x := 1) dX6_explore_201 rfl ?_
      refine zw_iadd dX6_explore_202 ?_
      rw [nI_1]
      refine zw_istore dX6_explore_203 (by decide) rfl ?_
      refine zw_iload dX6_explore_205 rfl ?_
      refine zw_iload_n dX6_explore_207 rfl ?_
      refine zw_icmpge (tgt := 355) dX6_explore_208 (by decide) (fun c208 => ?_) (fun c208 => ?_)
      · have hl7 : (rwl ++ [((((([0, 0, 0, 0, 0] : List Int32).set (Int32.toNatClampNeg 0) (nI rows.length)).set (Int32.toNatClampNeg 1) (nI a)).set (Int32.toNatClampNeg 2) (nI m)).set (Int32.toNatClampNeg 3) (-1)).set (Int32.toNatClampNeg 4) (-1)]).length = rwl.length + 1 := by rw [List.length_append, List.length_singleton]
        have ht7 : hTri (rwl.length + 1) = hTri rwl.length + (rwl.length + 1) := rfl
        have hl8 : (rows ++ [t]).length = rows.length + 1 := by rw [List.length_append, List.length_singleton]
        refine zw_loc (lc' := [(0, .ref 30), (1, .int mo), (2, .int (nI L)), (4, .int (nI s)), (5, .ref (zn σF)), (6, .int (nI a)), (7, .int (nI m))]) (zsub_cons rfl (zsub_cons rfl (zsub_cons rfl (zsub_cons rfl (zsub_cons rfl (zsub_cons rfl (zsub_cons rfl zsub_nil))))))) (KK _ (zn σF) _ _ _ (hAF.x x7) ((yA.tr yF).tr x7.y) r7 (by rw [hl7]; omega) ?_ ?_)
        · rw [hl8]; omega
        · rw [hl7, hl8, ht7]; omega
      · refine zw_aload dX6_explore_211 rfl ?_
        refine zw_iconst (x := 2) dX6_explore_213 rfl ?_
        refine zw_iaload dX6_explore_214 oo7.1 (nI_10 (by unfold vp_in; decide) oo7) ?_
        rw [hrow_2 oo7]
        refine zw_ifle (tgt := 355) dX6_explore_215 (by decide) (fun c215 => ?_) (fun c215 => ?_)
        · have hl7 : (rwl ++ [((((([0, 0, 0, 0, 0] : List Int32).set (Int32.toNatClampNeg 0) (nI rows.length)).set (Int32.toNatClampNeg 1) (nI a)).set (Int32.toNatClampNeg 2) (nI m)).set (Int32.toNatClampNeg 3) (-1)).set (Int32.toNatClampNeg 4) (-1)]).length = rwl.length + 1 := by rw [List.length_append, List.length_singleton]
          have ht7 : hTri (rwl.length + 1) = hTri rwl.length + (rwl.length + 1) := rfl
          have hl8 : (rows ++ [t]).length = rows.length + 1 := by rw [List.length_append, List.length_singleton]
          refine zw_loc (lc' := [(0, .ref 30), (1, .int mo), (2, .int (nI L)), (4, .int (nI s)), (5, .ref (zn σF)), (6, .int (nI a)), (7, .int (nI m))]) (zsub_cons rfl (zsub_cons rfl (zsub_cons rfl (zsub_cons rfl (zsub_cons rfl (zsub_cons rfl (zsub_cons rfl zsub_nil))))))) (KK _ (zn σF) _ _ _ (hAF.x x7) ((yA.tr yF).tr x7.y) r7 (by rw [hl7]; omega) ?_ ?_)
          · rw [hl8]; omega
          · rw [hl7, hl8, ht7]; omega
        · exact absurd (show one.h ≤ 0 by rw [hh]; decide) c215
  · exact absurd c127 (by rw [hv2]; decide)
set_option maxHeartbeats 4000000 in
set_option maxRecDepth 100000 in
theorem lp_ch_4 {l : Launch} {σ0 σ : zS} {RC RS L n s a m ra uc us : Nat} {mo : Int32} {G st : List Int32} {mvs : List (List hMv)} {ms : List hMv} {one : hMv} {rows rwl : List (List Int32)} {Q : Option Value → zS → Prop} (hA : hAll σ0 σ L G mvs rows n) (hrl : ∀ r, r ∈ rows → r.length = L + G.length) (h5 : L + G.length ≤ 5) (hst : rows[s]? = some st) (hra : iII σ ra rwl) (hma : mvs[a]? = some ms) (hk : ms[m]? = some one) (haL : a < L) (hmv : hMvs L G mvs) (hok : hMok L G one) (hn1 : rows.length + 6 * (L - (a + 1)) + 1 < 432) (hn2 : rwl.length + 6 * (L - (a + 1)) + 1 < 130) (hn3 : ms.length ≤ 6) (hR : uc + 4 + 48 * (L - (a + 1)) + 3 ≤ RC ∧ us + 10 + 1450 + 8700 * (L - (a + 1)) ≤ RS) (hv2 : hOpn L G st a one = true) {t : List Int32} (hD : hDn L G st a one = some t) (hh : 0 < one.h) (KK : ∀ σ' ra' rw' uc' us', hAll σ0 σ' L G mvs (hBs L G mvs st t one (L - (a + 1)) (a + 1) rows) n → zY σ σ' → iII σ' ra' rw' → rw'.length ≤ rwl.length + 6 * (L - (a + 1)) + 1 → uc' + 3 * rows.length ≤ uc + 4 + 30 * (L - (a + 1)) + 3 * (hBs L G mvs st t one (L - (a + 1)) (a + 1) rows).length → us' + hTri rwl.length + 1300 * rows.length ≤ us + 15 + 120 * (L - (a + 1)) + hTri rw'.length + 1300 * (hBs L G mvs st t one (L - (a + 1)) (a + 1) rows).length → zAW l zmX6_explore { frames := 3, cells := RC, slots := RS, locals := 79 } 355 [(0, .ref 30), (1, .int mo), (2, .int (nI L)), (4, .int (nI s)), (5, .ref (ra')), (6, .int (nI a)), (7, .int (nI m))] [] σ' uc' us' Q) : zAW l zmX6_explore { frames := 3, cells := RC, slots := RS, locals := 79 } 100 [(0, .ref 30), (1, .int mo), (2, .int (nI L)), (4, .int (nI s)), (5, .ref (ra)), (6, .int (nI a)), (7, .int (nI m))] [] σ uc us Q := by
  have h30 := hA.2.2.1.2.1
  have kM := hA.2.2.1.1
  have hgr := hA.2.1
  obtain ⟨sa, sg, sI⟩ := hA.2.2.1.2.2.1
  obtain ⟨ma, mg, mI⟩ := hA.2.2.2.1
  obtain ⟨mb, mb1, mb2⟩ := mI.2.2.2.2 a _ hma
  obtain ⟨oo, oo1, oo2⟩ := mb2.2.2.2.2 m _ (show (ms.map hMv.row)[m]? = some one.row by rw [List.getElem?_map, hk]; rfl)
  obtain ⟨ss, ss1, ss2⟩ := sI.2.2.2.2 s _ hst
  have hkl := (List.getElem?_eq_some_iff.mp hk).1
  have hbm := (List.getElem?_eq_some_iff.mp hma).1
  have hn4 := hmv.1
  have hsl := (List.getElem?_eq_some_iff.mp hst).1
  have stl : st.length = L + G.length := hrl st (List.mem_of_getElem? hst)
  have yA : zY σ σ := zY.rf σ
  refine zw_aload_n dX6_explore_100 rfl ?_
  refine zw_getR dX6_explore_101 zfX6_21 rfl kM (by decide) mg ?_
  refine zw_iload dX6_explore_104 rfl ?_
  refine zw_aaload (t := 5) dX6_explore_106 mI.1 rfl (by decide) (zin_of mI.2.2.2.1 (vp_in_nI hbm (by omega))) ?_
  rw [nI_clamp (show a < 2 ^ 31 by omega), mb1]
  refine zw_iload dX6_explore_107 rfl ?_
  refine zw_aaload (t := 4) dX6_explore_109 mb2.1 rfl (by decide) (zin_of mb2.2.2.2.1 (vp_in_nI (by rw [List.length_map]; exact hkl) (by rw [List.length_map]; omega))) ?_
  rw [nI_clamp (show m < 2 ^ 31 by omega), oo1]
  refine zw_astore dX6_explore_110 (by decide) rfl ?_
  refine zw_aload_n dX6_explore_112 rfl ?_
  refine zw_aload_n dX6_explore_113 rfl ?_
  refine zw_getR dX6_explore_114 zfX6_25 rfl kM (by decide) sg ?_
  refine zw_iload dX6_explore_117 rfl ?_
  refine zw_aaload (t := 4) dX6_explore_119 sI.1 rfl (by decide) (zin_of sI.2.2.2.1 (vp_in_nI hsl (by omega))) ?_
  rw [nI_clamp (show s < 2 ^ 31 by omega), ss1]
  refine zw_iload dX6_explore_120 rfl ?_
  refine zw_aload dX6_explore_122 rfl ?_
  refine zw_callV (y' := zmX6_isOpen) dX6_explore_124 zlX6_62 zmX6_isOpen_ok kM (by decide) rfl (c_X6_isOpen hgr ss2 oo2 stl (by omega) haL hok.2 hok.1) rfl rfl (Nat.le_of_ble_eq_true rfl) ⟨Nat.le_of_ble_eq_true rfl, Nat.le_of_ble_eq_true rfl⟩ ⟨show uc + 1 ≤ RC by omega, show us + st.length ≤ RS by omega⟩ ?_
  intro v124 s124 q124
  obtain ⟨rfl, x1⟩ := q124
  replace yA := yA.tr x1.y
  replace hra := iII.x hra x1
  replace oo2 := oo2.x x1
  replace hA := hA.x x1
  replace hgr := hA.2.1
  replace kM := hgr.1
  refine zw_ifne (tgt := 133) dX6_explore_127 (by decide) (fun c127 => ?_) (fun c127 => ?_)
  · clear sg sI ss1 ss2
    obtain ⟨sa, sg, sI⟩ := hA.2.2.1.2.2.1
    obtain ⟨ss, ss1, ss2⟩ := sI.2.2.2.2 s _ hst
    refine zw_aload_n dX6_explore_133 rfl ?_
    refine zw_aload_n dX6_explore_134 rfl ?_
    refine zw_getR dX6_explore_135 zfX6_25 rfl kM (by decide) sg ?_
    refine zw_iload dX6_explore_138 rfl ?_
    refine zw_aaload (t := 4) dX6_explore_140 sI.1 rfl (by decide) (zin_of sI.2.2.2.1 (vp_in_nI hsl (by omega))) ?_
    rw [nI_clamp (show s < 2 ^ 31 by omega), ss1]
    refine zw_iload dX6_explore_141 rfl ?_
    refine zw_aload dX6_explore_143 rfl ?_
    refine zw_callV (y' := zmX6_done) dX6_explore_145 zlX6_43 zmX6_done_ok kM (by decide) rfl (c_X6_done_some hgr ss2 oo2 stl (by omega) haL hok.2 hD) rfl rfl (Nat.le_of_ble_eq_true rfl) ⟨Nat.le_of_ble_eq_true rfl, Nat.le_of_ble_eq_true rfl⟩ ⟨show uc + 1 + 1 ≤ RC by omega, show us + st.length + st.length ≤ RS by omega⟩ ?_
    intro v145 s145 q145
    obtain ⟨rfl, x2, n2, hbe⟩ := q145
    replace yA := yA.tr x2.y
    replace hra := iII.x hra x2
    replace oo2 := oo2.x x2
    replace hA := hA.x x2
    replace hgr := hA.2.1
    replace kM := hgr.1
    refine zw_astore dX6_explore_148 (by decide) rfl ?_
    refine zw_aload dX6_explore_150 rfl ?_
    refine zw_iconst (x := 2) dX6_explore_152 rfl ?_
    refine zw_iaload dX6_explore_153 oo2.1 (nI_10 (by unfold vp_in; decide) oo2) ?_
    rw [hrow_2 oo2]
    refine zw_ifne (tgt := 199) dX6_explore_154 (by decide) (fun c154 => ?_) (fun c154 => ?_)
    · refine zw_iload dX6_explore_199 rfl ?_
      refine zw_iconst (x := 1) dX6_explore_201 rfl ?_
      refine zw_iadd dX6_explore_202 ?_
      rw [nI_1]
      refine zw_istore dX6_explore_203 (by decide) rfl ?_
      refine zw_loc (lc' := [(0, .ref 30), (1, .int mo), (2, .int (nI L)), (4, .int (nI s)), (5, .ref (ra)), (6, .int (nI a)), (7, .int (nI m)), (8, .ref (oo)), (9, .ref (zn s124)), (10, .int (nI (a + 1)))]) (zsub_cons rfl (zsub_cons rfl (zsub_cons rfl (zsub_cons rfl (zsub_cons rfl (zsub_cons rfl (zsub_cons rfl (zsub_cons rfl (zsub_cons rfl (zsub_cons rfl zsub_nil)))))))))) (lp_b h5 (by rw [hDn_len hD]; exact stl) hmv hh (L - (a + 1)) (a + 1) s145 rows rwl ra _ _ (by omega) hA hrl hst hbe oo2 hra (by omega) (by omega) (by omega) (fun σ' ra' rw' uc' us' hA' hy hra' f1 f2 f3 => KK σ' ra' rw' uc' us' hA' (yA.tr hy) hra' (by omega) (by omega) (by omega)))
    · exact absurd c154 (fun e => by rw [e] at hh; exact absurd hh (by decide))
  · exact absurd c127 (by rw [hv2]; decide)
