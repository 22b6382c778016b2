/-! a move of the hand, and the state behind its deed -/
def hMv : Type := Int32 × Int32 × Int32 × Int32 × Nat × Int32 × Int32 × Nat × Int32
def hMv.f (m : hMv) : Int32 := m.1
def hMv.t (m : hMv) : Int32 := m.2.1
def hMv.h (m : hMv) : Int32 := m.2.2.1
def hMv.gs (m : hMv) : Int32 := m.2.2.2.1
def hMv.gv (m : hMv) : Nat := m.2.2.2.2.1
def hMv.gn (m : hMv) : Int32 := m.2.2.2.2.2.1
def hMv.ds (m : hMv) : Int32 := m.2.2.2.2.2.2.1
def hMv.dv (m : hMv) : Nat := m.2.2.2.2.2.2.2.1
def hMv.dn (m : hMv) : Int32 := m.2.2.2.2.2.2.2.2
def hMv.row (m : hMv) : List Int32 := [m.f, m.t, m.h, m.gs, nI m.gv, m.gn, m.ds, nI m.dv, m.dn]
def hVal (L : Nat) (st : List Int32) (m : hMv) : Int32 := if m.ds = 1 then m.dn else (st[L + m.dv]?).getD 0 + m.dn
def hDn (L : Nat) (G st : List Int32) (p : Nat) (m : hMv) : Option (List Int32) := if m.ds = 0 then some (st.set p m.t) else if hVal L st m < 0 then none else if hVal L st m ≤ (G[m.dv]?).getD 0 then some ((st.set p m.t).set (L + m.dv) (hVal L st m)) else none
def hOpn (L : Nat) (G st : List Int32) (p : Nat) (m : hMv) : Bool := decide (st[p]? = some m.f) && ((hDn L G st p m).isSome && (decide (m.gs = 0) || (decide (m.gs = 1) && decide ((st[L + m.gv]?).getD 0 = m.gn)) || (decide (m.gs = 2) && decide ((st[L + m.gv]?).getD 0 ≠ m.gn)) || (decide (m.gs = 3) && decide ((st[L + m.gv]?).getD 0 < m.gn)) || (decide (m.gs = 4) && decide (m.gn < (st[L + m.gv]?).getD 0))))
theorem hrow_0 {σ : zS} {b : Nat} {m : hMv} (h : iI σ b m.row) : zI σ b (Int32.toNatClampNeg 0) = m.f := by
  rw [show Int32.toNatClampNeg 0 = 0 from by decide]
  exact h.2.2.2.2 0 _ rfl
theorem hrow_1 {σ : zS} {b : Nat} {m : hMv} (h : iI σ b m.row) : zI σ b (Int32.toNatClampNeg 1) = m.t := by
  rw [show Int32.toNatClampNeg 1 = 1 from by decide]
  exact h.2.2.2.2 1 _ rfl
theorem hrow_2 {σ : zS} {b : Nat} {m : hMv} (h : iI σ b m.row) : zI σ b (Int32.toNatClampNeg 2) = m.h := by
  rw [show Int32.toNatClampNeg 2 = 2 from by decide]
  exact h.2.2.2.2 2 _ rfl
theorem hrow_3 {σ : zS} {b : Nat} {m : hMv} (h : iI σ b m.row) : zI σ b (Int32.toNatClampNeg 3) = m.gs := by
  rw [show Int32.toNatClampNeg 3 = 3 from by decide]
  exact h.2.2.2.2 3 _ rfl
theorem hrow_4 {σ : zS} {b : Nat} {m : hMv} (h : iI σ b m.row) : zI σ b (Int32.toNatClampNeg 4) = nI m.gv := by
  rw [show Int32.toNatClampNeg 4 = 4 from by decide]
  exact h.2.2.2.2 4 _ rfl
theorem hrow_5 {σ : zS} {b : Nat} {m : hMv} (h : iI σ b m.row) : zI σ b (Int32.toNatClampNeg 5) = m.gn := by
  rw [show Int32.toNatClampNeg 5 = 5 from by decide]
  exact h.2.2.2.2 5 _ rfl
theorem hrow_6 {σ : zS} {b : Nat} {m : hMv} (h : iI σ b m.row) : zI σ b (Int32.toNatClampNeg 6) = m.ds := by
  rw [show Int32.toNatClampNeg 6 = 6 from by decide]
  exact h.2.2.2.2 6 _ rfl
theorem hrow_7 {σ : zS} {b : Nat} {m : hMv} (h : iI σ b m.row) : zI σ b (Int32.toNatClampNeg 7) = nI m.dv := by
  rw [show Int32.toNatClampNeg 7 = 7 from by decide]
  exact h.2.2.2.2 7 _ rfl
theorem hrow_8 {σ : zS} {b : Nat} {m : hMv} (h : iI σ b m.row) : zI σ b (Int32.toNatClampNeg 8) = m.dn := by
  rw [show Int32.toNatClampNeg 8 = 8 from by decide]
  exact h.2.2.2.2 8 _ rfl
theorem nI_10 {i : Int32} (h : vp_in i 9) {σ : zS} {b : Nat} {m : hMv} (hb : iI σ b m.row) : vp_in i (zL σ b) := by
  rw [show zL σ b = 9 from hb.2.2.2.1]
  exact h
/-- the hand's locations and greatest values -/
def hGr (σ : zS) (L : Nat) (G : List Int32) : Prop := zK σ 30 = 6 ∧ 30 < zn σ ∧ (∃ la ls, zG σ 6 0 30 = some la ∧ iI σ la ls ∧ ls.length = L) ∧ ∃ ga, zG σ 6 1 30 = some ga ∧ iI σ ga G
theorem hGr.x {σ σ' : zS} {L : Nat} {G : List Int32} (h : hGr σ L G) (hx : zX σ σ') : hGr σ' L G := by
  obtain ⟨h1, h2, ⟨la, ls, h3, h4, h5⟩, ga, h6, h7⟩ := h
  obtain ⟨b1, b2, b3, b4, b5⟩ := hx.2 30 h2
  exact ⟨b1.trans h1, Nat.lt_of_lt_of_le h2 hx.1, ⟨la, ls, (b5 6 0).2.trans h3, h4.x hx, h5⟩, ga, (b5 6 1).2.trans h6, h7.x hx⟩
theorem hGr.y {σ σ' : zS} {L : Nat} {G : List Int32} (h : hGr σ L G) (hx : zY σ σ') : hGr σ' L G := by
  obtain ⟨h1, h2, ⟨la, ls, h3, h4, h5⟩, ga, h6, h7⟩ := h
  obtain ⟨b1, b2, b3, b4, b5⟩ := hx.2 30 h2
  exact ⟨b1.trans h1, Nat.lt_of_lt_of_le h2 hx.1, ⟨la, ls, ((b5 6 0).2 (by omega)).trans h3, h4.y hx, h5⟩, ga, ((b5 6 1).2 (by omega)).trans h6, h7.y hx⟩
set_option maxHeartbeats 4000000 in
set_option maxRecDepth 100000 in
theorem c_X6_done_some {l : Launch} {σ : zS} {L p a b : Nat} {G st : List Int32} {m : hMv} (hgr : hGr σ L G) (ha : iI σ a st) (hb : iI σ b m.row) (hlen : st.length = L + G.length) (hL : st.length < 1000) (hp : p < L) (hdv : m.ds ≠ 0 → m.dv < G.length) {r : List Int32} (hD : hDn L G st p m = some r) : zAM l zmX6_done 1 30 1 st.length [.ref 30, .ref a, .int (nI p), .ref b] σ (fun v σ' => v = some (.ref (zn σ)) ∧ zX σ σ' ∧ zn σ' = zn σ + 1 ∧ iI σ' (zn σ) r) := by
  refine zAM.of (by decide +kernel) (Nat.le_of_ble_eq_true rfl) ?_
  obtain ⟨kH, h30, ⟨la, ls, gla, ila, lla⟩, ga, gga, iga⟩ := id hgr
  have bM := hb
  refine zw_aload_n dX6_done_0 rfl ?_
  refine zw_cloneI dX6_done_1 zcnX6_39 ha.1 ha.2.1 ⟨Nat.le_of_ble_eq_true rfl, Nat.le_of_ble_eq_true rfl⟩ ⟨Nat.le_of_ble_eq_true rfl, show 0 + zL σ a ≤ st.length by rw [ha.2.2.2.1, Nat.zero_add]; exact Nat.le_refl _⟩ ?_
  have xM : zX σ (znA2 σ 0 (zL σ a) (zI σ a)) := (zX.rf σ).A2 0 _ _
  have iM : iI (znA2 σ 0 (zL σ a) (zI σ a)) (zn σ) st := ⟨by rw [zK_znA2, if_pos rfl], Nat.lt_of_le_of_lt (Nat.zero_le a) ha.2.2.1, Nat.lt_succ_self _, by rw [zL_znA2, if_pos rfl, ha.2.2.2.1], fun i x q => by rw [zI_znA2, if_pos rfl]; exact ha.2.2.2.2 i x q⟩
  have nM : zn (znA2 σ 0 (zL σ a) (zI σ a)) = zn σ + 1 := rfl
  generalize znA2 σ 0 (zL σ a) (zI σ a) = σ1 at xM iM nM ⊢
  have bM := hb.x xM
  have lM := ila.x xM
  have tM := iga.x xM
  have kM : zK σ1 30 = 6 := ((xM.2 30 h30).1).trans kH
  have gM : zG σ1 6 0 30 = some la := ((xM.2 30 h30).2.2.2.2 6 0).2.trans gla
  have uM : zG σ1 6 1 30 = some ga := ((xM.2 30 h30).2.2.2.2 6 1).2.trans gga
  refine zw_castI dX6_done_4 zclX6_24 iM.1 iM.2.1 ?_
  refine zw_astore dX6_done_7 (by decide) rfl ?_
  refine zw_aload dX6_done_9 rfl ?_
  refine zw_iload_n dX6_done_11 rfl ?_
  refine zw_aload_n dX6_done_12 rfl ?_
  refine zw_iconst (x := 1) dX6_done_13 rfl ?_
  refine zw_iaload dX6_done_14 bM.1 (nI_10 (by unfold vp_in; decide) bM) ?_
  rw [hrow_1 bM]
  refine zw_iastore dX6_done_15 iM.1 iM.2.1 (zin_of iM.2.2.2.1 (vp_in_nI (by omega) (by omega))) ?_
  rw [nI_clamp (show p < 2 ^ 31 by omega)]
  have xM2 : zX σ (zsI σ1 (zn σ) p m.t) := xM.I (Nat.le_refl _)
  have iM2 : iI (zsI σ1 (zn σ) p m.t) (zn σ) (st.set p m.t) := iM.set p m.t
  have nM2 : zn (zsI σ1 (zn σ) p m.t) = zn σ + 1 := nM
  generalize zsI σ1 (zn σ) p m.t = σ2 at xM2 iM2 nM2 ⊢
  clear xM iM nM bM lM tM kM gM uM
  rename zX σ σ2 => xM
  rename iI σ2 (zn σ) (st.set p m.t) => iM
  rename zn σ2 = zn σ + 1 => nM
  have bM := hb.x xM
  have lM := ila.x xM
  have tM := iga.x xM
  have kM : zK σ2 30 = 6 := ((xM.2 30 h30).1).trans kH
  have gM : zG σ2 6 0 30 = some la := ((xM.2 30 h30).2.2.2.2 6 0).2.trans gla
  have uM : zG σ2 6 1 30 = some ga := ((xM.2 30 h30).2.2.2.2 6 1).2.trans gga
  refine zw_aload_n dX6_done_16 rfl ?_
  refine zw_bipush (x := 6) dX6_done_17 rfl ?_
  refine zw_iaload dX6_done_19 bM.1 (nI_10 (by unfold vp_in; decide) bM) ?_
  rw [hrow_6 bM]
  refine zw_ifne (tgt := 26) dX6_done_20 (by decide) (fun c20 => ?_) (fun c20 => ?_)
  · have hdl := hdv c20
    refine zw_aload_n dX6_done_26 rfl ?_
    refine zw_getR dX6_done_27 zfX6_7 rfl kM (by decide) gM ?_
    refine zw_alen (t := 0) dX6_done_30 lM.1 (by decide) ?_
    rw [lM.2.2.2.1, lla]
    refine zw_aload_n dX6_done_31 rfl ?_
    refine zw_bipush (x := 7) dX6_done_32 rfl ?_
    refine zw_iaload dX6_done_34 bM.1 (nI_10 (by unfold vp_in; decide) bM) ?_
    rw [hrow_7 bM]
    refine zw_iadd dX6_done_35 ?_
    rw [nI_add]
    refine zw_istore dX6_done_36 (by decide) rfl ?_
    refine zw_aload dX6_done_38 rfl ?_
    refine zw_iload dX6_done_40 rfl ?_
    refine zw_aload_n dX6_done_42 rfl ?_
    refine zw_bipush (x := 6) dX6_done_43 rfl ?_
    refine zw_iaload dX6_done_45 bM.1 (nI_10 (by unfold vp_in; decide) bM) ?_
    rw [hrow_6 bM]
    refine zw_iconst (x := 1) dX6_done_46 rfl ?_
    refine zw_icmpne (tgt := 57) dX6_done_47 (by decide) (fun c47 => ?_) (fun c47 => ?_)
    · refine zw_aload dX6_done_57 rfl ?_
      refine zw_iload dX6_done_59 rfl ?_
      refine zw_iaload dX6_done_61 iM.1 (zin_of iM.2.2.2.1 (vp_in_nI (by rw [List.length_set]; omega) (by rw [List.length_set]; omega))) ?_
      obtain ⟨sv, hsv⟩ : ∃ sv, st[L + m.dv]? = some sv := ⟨_, List.getElem?_eq_getElem (by omega)⟩
      have hs2 : zI σ2 (zn σ) (L + m.dv) = sv := iM.2.2.2.2 _ _ (by rw [List.getElem?_set, if_neg (by omega)]; exact hsv)
      rw [nI_clamp (show L + m.dv < 2 ^ 31 by omega), hs2]
      refine zw_aload_n dX6_done_62 rfl ?_
      refine zw_bipush (x := 8) dX6_done_63 rfl ?_
      refine zw_iaload dX6_done_65 bM.1 (nI_10 (by unfold vp_in; decide) bM) ?_
      rw [hrow_8 bM]
      refine zw_iadd dX6_done_66 ?_
      refine zw_iastore dX6_done_67 iM.1 iM.2.1 (zin_of iM.2.2.2.1 (vp_in_nI (by rw [List.length_set]; omega) (by rw [List.length_set]; omega))) ?_
      have eV : hVal L st m = sv + m.dn := by
        unfold hVal
        rw [if_neg c47]
        rw [hsv]
        rfl
      rw [nI_clamp (show L + m.dv < 2 ^ 31 by omega)]
      have xM3 : zX σ (zsI σ2 (zn σ) (L + m.dv) (sv + m.dn)) := xM.I (Nat.le_refl _)
      have iM3 : iI (zsI σ2 (zn σ) (L + m.dv) (sv + m.dn)) (zn σ) ((st.set p m.t).set (L + m.dv) (sv + m.dn)) := iM.set _ _
      have nM3 : zn (zsI σ2 (zn σ) (L + m.dv) (sv + m.dn)) = zn σ + 1 := nM
      rw [← eV] at xM3 iM3 nM3 ⊢
      generalize zsI σ2 (zn σ) (L + m.dv) (hVal L st m) = σ3 at xM3 iM3 nM3 ⊢
      clear xM iM nM bM lM tM kM gM uM
      rename zX σ σ3 => xM
      rename iI σ3 (zn σ) _ => iM
      rename zn σ3 = zn σ + 1 => nM
      have bM := hb.x xM
      have lM := ila.x xM
      have tM := iga.x xM
      have kM : zK σ3 30 = 6 := ((xM.2 30 h30).1).trans kH
      have gM : zG σ3 6 0 30 = some la := ((xM.2 30 h30).2.2.2.2 6 0).2.trans gla
      have uM : zG σ3 6 1 30 = some ga := ((xM.2 30 h30).2.2.2.2 6 1).2.trans gga
      have vM : zI σ3 (zn σ) (L + m.dv) = hVal L st m := iM.2.2.2.2 _ _ (by rw [List.getElem?_set, if_pos rfl, if_pos (by rw [List.length_set]; omega)])
      refine zw_aload dX6_done_68 rfl ?_
      refine zw_iload dX6_done_70 rfl ?_
      refine zw_iaload dX6_done_72 iM.1 (zin_of iM.2.2.2.1 (vp_in_nI (by rw [List.length_set, List.length_set]; omega) (by rw [List.length_set, List.length_set]; omega))) ?_
      rw [nI_clamp (show L + m.dv < 2 ^ 31 by omega), vM]
      refine zw_iflt (tgt := 93) dX6_done_73 (by decide) (fun c73 => ?_) (fun c73 => ?_)
      · refine zw_null dX6_done_93 ?_
        refine zw_goto (tgt := 99) dX6_done_94 (by decide) ?_
        refine zw_aretN dX6_done_99 rfl (Or.inr ⟨_, rfl⟩) ?_
        unfold hDn at hD
        rw [if_neg c20] at hD
        rw [if_pos c73] at hD
        cases hD
      · refine zw_aload dX6_done_76 rfl ?_
        refine zw_iload dX6_done_78 rfl ?_
        refine zw_iaload dX6_done_80 iM.1 (zin_of iM.2.2.2.1 (vp_in_nI (by rw [List.length_set, List.length_set]; omega) (by rw [List.length_set, List.length_set]; omega))) ?_
        rw [nI_clamp (show L + m.dv < 2 ^ 31 by omega), vM]
        refine zw_aload_n dX6_done_81 rfl ?_
        refine zw_getR dX6_done_82 zfX6_13 rfl kM (by decide) uM ?_
        refine zw_aload_n dX6_done_85 rfl ?_
        refine zw_bipush (x := 7) dX6_done_86 rfl ?_
        refine zw_iaload dX6_done_88 bM.1 (nI_10 (by unfold vp_in; decide) bM) ?_
        rw [hrow_7 bM]
        refine zw_iaload dX6_done_89 tM.1 (zin_of tM.2.2.2.1 (vp_in_nI hdl (by omega))) ?_
        obtain ⟨gd, hgd'⟩ : ∃ gd, G[m.dv]? = some gd := ⟨_, List.getElem?_eq_getElem hdl⟩
        have hgd : (G[m.dv]?).getD 0 = gd := by rw [hgd']; rfl
        have hgz : zI σ3 ga m.dv = gd := tM.2.2.2.2 _ _ hgd'
        rw [nI_clamp (show m.dv < 2 ^ 31 by omega), hgz]
        refine zw_icmple (tgt := 97) dX6_done_90 (by decide) (fun c90 => ?_) (fun c90 => ?_)
        · refine zw_aload dX6_done_97 rfl ?_
          refine zw_aret dX6_done_99 rfl (Or.inr ⟨_, rfl⟩) ?_
          unfold hDn at hD
          rw [if_neg c20, if_neg c73, hgd, if_pos c90] at hD
          rw [← Option.some.inj hD]
          exact ⟨rfl, xM, nM, iM⟩
        · refine zw_null dX6_done_93 ?_
          refine zw_goto (tgt := 99) dX6_done_94 (by decide) ?_
          refine zw_aretN dX6_done_99 rfl (Or.inr ⟨_, rfl⟩) ?_
          unfold hDn at hD
          rw [if_neg c20] at hD
          rw [if_neg c73, hgd, if_neg c90] at hD
          cases hD
    · refine zw_aload_n dX6_done_50 rfl ?_
      refine zw_bipush (x := 8) dX6_done_51 rfl ?_
      refine zw_iaload dX6_done_53 bM.1 (nI_10 (by unfold vp_in; decide) bM) ?_
      rw [hrow_8 bM]
      refine zw_goto (tgt := 67) dX6_done_54 (by decide) ?_
      refine zw_iastore dX6_done_67 iM.1 iM.2.1 (zin_of iM.2.2.2.1 (vp_in_nI (by rw [List.length_set]; omega) (by rw [List.length_set]; omega))) ?_
      have eV : hVal L st m = m.dn := by
        unfold hVal
        rw [if_pos c47]
      rw [nI_clamp (show L + m.dv < 2 ^ 31 by omega)]
      have xM3 : zX σ (zsI σ2 (zn σ) (L + m.dv) (m.dn)) := xM.I (Nat.le_refl _)
      have iM3 : iI (zsI σ2 (zn σ) (L + m.dv) (m.dn)) (zn σ) ((st.set p m.t).set (L + m.dv) (m.dn)) := iM.set _ _
      have nM3 : zn (zsI σ2 (zn σ) (L + m.dv) (m.dn)) = zn σ + 1 := nM
      rw [← eV] at xM3 iM3 nM3 ⊢
      generalize zsI σ2 (zn σ) (L + m.dv) (hVal L st m) = σ3 at xM3 iM3 nM3 ⊢
      clear xM iM nM bM lM tM kM gM uM
      rename zX σ σ3 => xM
      rename iI σ3 (zn σ) _ => iM
      rename zn σ3 = zn σ + 1 => nM
      have bM := hb.x xM
      have lM := ila.x xM
      have tM := iga.x xM
      have kM : zK σ3 30 = 6 := ((xM.2 30 h30).1).trans kH
      have gM : zG σ3 6 0 30 = some la := ((xM.2 30 h30).2.2.2.2 6 0).2.trans gla
      have uM : zG σ3 6 1 30 = some ga := ((xM.2 30 h30).2.2.2.2 6 1).2.trans gga
      have vM : zI σ3 (zn σ) (L + m.dv) = hVal L st m := iM.2.2.2.2 _ _ (by rw [List.getElem?_set, if_pos rfl, if_pos (by rw [List.length_set]; omega)])
      refine zw_aload dX6_done_68 rfl ?_
      refine zw_iload dX6_done_70 rfl ?_
      refine zw_iaload dX6_done_72 iM.1 (zin_of iM.2.2.2.1 (vp_in_nI (by rw [List.length_set, List.length_set]; omega) (by rw [List.length_set, List.length_set]; omega))) ?_
      rw [nI_clamp (show L + m.dv < 2 ^ 31 by omega), vM]
      refine zw_iflt (tgt := 93) dX6_done_73 (by decide) (fun c73 => ?_) (fun c73 => ?_)
      · refine zw_null dX6_done_93 ?_
        refine zw_goto (tgt := 99) dX6_done_94 (by decide) ?_
        refine zw_aretN dX6_done_99 rfl (Or.inr ⟨_, rfl⟩) ?_
        unfold hDn at hD
        rw [if_neg c20] at hD
        rw [if_pos c73] at hD
        cases hD
      · refine zw_aload dX6_done_76 rfl ?_
        refine zw_iload dX6_done_78 rfl ?_
        refine zw_iaload dX6_done_80 iM.1 (zin_of iM.2.2.2.1 (vp_in_nI (by rw [List.length_set, List.length_set]; omega) (by rw [List.length_set, List.length_set]; omega))) ?_
        rw [nI_clamp (show L + m.dv < 2 ^ 31 by omega), vM]
        refine zw_aload_n dX6_done_81 rfl ?_
        refine zw_getR dX6_done_82 zfX6_13 rfl kM (by decide) uM ?_
        refine zw_aload_n dX6_done_85 rfl ?_
        refine zw_bipush (x := 7) dX6_done_86 rfl ?_
        refine zw_iaload dX6_done_88 bM.1 (nI_10 (by unfold vp_in; decide) bM) ?_
        rw [hrow_7 bM]
        refine zw_iaload dX6_done_89 tM.1 (zin_of tM.2.2.2.1 (vp_in_nI hdl (by omega))) ?_
        obtain ⟨gd, hgd'⟩ : ∃ gd, G[m.dv]? = some gd := ⟨_, List.getElem?_eq_getElem hdl⟩
        have hgd : (G[m.dv]?).getD 0 = gd := by rw [hgd']; rfl
        have hgz : zI σ3 ga m.dv = gd := tM.2.2.2.2 _ _ hgd'
        rw [nI_clamp (show m.dv < 2 ^ 31 by omega), hgz]
        refine zw_icmple (tgt := 97) dX6_done_90 (by decide) (fun c90 => ?_) (fun c90 => ?_)
        · refine zw_aload dX6_done_97 rfl ?_
          refine zw_aret dX6_done_99 rfl (Or.inr ⟨_, rfl⟩) ?_
          unfold hDn at hD
          rw [if_neg c20, if_neg c73, hgd, if_pos c90] at hD
          rw [← Option.some.inj hD]
          exact ⟨rfl, xM, nM, iM⟩
        · refine zw_null dX6_done_93 ?_
          refine zw_goto (tgt := 99) dX6_done_94 (by decide) ?_
          refine zw_aretN dX6_done_99 rfl (Or.inr ⟨_, rfl⟩) ?_
          unfold hDn at hD
          rw [if_neg c20] at hD
          rw [if_neg c73, hgd, if_neg c90] at hD
          cases hD
  · refine zw_aload dX6_done_23 rfl ?_
    refine zw_aret dX6_done_25 rfl (Or.inr ⟨_, rfl⟩) ?_
    have e : r = st.set p m.t := by
      unfold hDn at hD
      rw [if_pos c20] at hD
      exact (Option.some.inj hD).symm
    rw [e]
    exact ⟨rfl, xM, nM, iM⟩
set_option maxHeartbeats 4000000 in
set_option maxRecDepth 100000 in
theorem c_X6_done_none {l : Launch} {σ : zS} {L p a b : Nat} {G st : List Int32} {m : hMv} (hgr : hGr σ L G) (ha : iI σ a st) (hb : iI σ b m.row) (hlen : st.length = L + G.length) (hL : st.length < 1000) (hp : p < L) (hdv : m.ds ≠ 0 → m.dv < G.length) (hD : hDn L G st p m = none) : zAM l zmX6_done 1 30 1 st.length [.ref 30, .ref a, .int (nI p), .ref b] σ (fun v σ' => v = some .null ∧ zX σ σ' ∧ zn σ' = zn σ + 1) := by
  refine zAM.of (by decide +kernel) (Nat.le_of_ble_eq_true rfl) ?_
  obtain ⟨kH, h30, ⟨la, ls, gla, ila, lla⟩, ga, gga, iga⟩ := id hgr
  have bM := hb
  refine zw_aload_n dX6_done_0 rfl ?_
  refine zw_cloneI dX6_done_1 zcnX6_39 ha.1 ha.2.1 ⟨Nat.le_of_ble_eq_true rfl, Nat.le_of_ble_eq_true rfl⟩ ⟨Nat.le_of_ble_eq_true rfl, show 0 + zL σ a ≤ st.length by rw [ha.2.2.2.1, Nat.zero_add]; exact Nat.le_refl _⟩ ?_
  have xM : zX σ (znA2 σ 0 (zL σ a) (zI σ a)) := (zX.rf σ).A2 0 _ _
  have iM : iI (znA2 σ 0 (zL σ a) (zI σ a)) (zn σ) st := ⟨by rw [zK_znA2, if_pos rfl], Nat.lt_of_le_of_lt (Nat.zero_le a) ha.2.2.1, Nat.lt_succ_self _, by rw [zL_znA2, if_pos rfl, ha.2.2.2.1], fun i x q => by rw [zI_znA2, if_pos rfl]; exact ha.2.2.2.2 i x q⟩
  have nM : zn (znA2 σ 0 (zL σ a) (zI σ a)) = zn σ + 1 := rfl
  generalize znA2 σ 0 (zL σ a) (zI σ a) = σ1 at xM iM nM ⊢
  have bM := hb.x xM
  have lM := ila.x xM
  have tM := iga.x xM
  have kM : zK σ1 30 = 6 := ((xM.2 30 h30).1).trans kH
  have gM : zG σ1 6 0 30 = some la := ((xM.2 30 h30).2.2.2.2 6 0).2.trans gla
  have uM : zG σ1 6 1 30 = some ga := ((xM.2 30 h30).2.2.2.2 6 1).2.trans gga
  refine zw_castI dX6_done_4 zclX6_24 iM.1 iM.2.1 ?_
  refine zw_astore dX6_done_7 (by decide) rfl ?_
  refine zw_aload dX6_done_9 rfl ?_
  refine zw_iload_n dX6_done_11 rfl ?_
  refine zw_aload_n dX6_done_12 rfl ?_
  refine zw_iconst (x := 1) dX6_done_13 rfl ?_
  refine zw_iaload dX6_done_14 bM.1 (nI_10 (by unfold vp_in; decide) bM) ?_
  rw [hrow_1 bM]
  refine zw_iastore dX6_done_15 iM.1 iM.2.1 (zin_of iM.2.2.2.1 (vp_in_nI (by omega) (by omega))) ?_
  rw [nI_clamp (show p < 2 ^ 31 by omega)]
  have xM2 : zX σ (zsI σ1 (zn σ) p m.t) := xM.I (Nat.le_refl _)
  have iM2 : iI (zsI σ1 (zn σ) p m.t) (zn σ) (st.set p m.t) := iM.set p m.t
  have nM2 : zn (zsI σ1 (zn σ) p m.t) = zn σ + 1 := nM
  generalize zsI σ1 (zn σ) p m.t = σ2 at xM2 iM2 nM2 ⊢
  clear xM iM nM bM lM tM kM gM uM
  rename zX σ σ2 => xM
  rename iI σ2 (zn σ) (st.set p m.t) => iM
  rename zn σ2 = zn σ + 1 => nM
  have bM := hb.x xM
  have lM := ila.x xM
  have tM := iga.x xM
  have kM : zK σ2 30 = 6 := ((xM.2 30 h30).1).trans kH
  have gM : zG σ2 6 0 30 = some la := ((xM.2 30 h30).2.2.2.2 6 0).2.trans gla
  have uM : zG σ2 6 1 30 = some ga := ((xM.2 30 h30).2.2.2.2 6 1).2.trans gga
  refine zw_aload_n dX6_done_16 rfl ?_
  refine zw_bipush (x := 6) dX6_done_17 rfl ?_
  refine zw_iaload dX6_done_19 bM.1 (nI_10 (by unfold vp_in; decide) bM) ?_
  rw [hrow_6 bM]
  refine zw_ifne (tgt := 26) dX6_done_20 (by decide) (fun c20 => ?_) (fun c20 => ?_)
  · have hdl := hdv c20
    refine zw_aload_n dX6_done_26 rfl ?_
    refine zw_getR dX6_done_27 zfX6_7 rfl kM (by decide) gM ?_
    refine zw_alen (t := 0) dX6_done_30 lM.1 (by decide) ?_
    rw [lM.2.2.2.1, lla]
    refine zw_aload_n dX6_done_31 rfl ?_
    refine zw_bipush (x := 7) dX6_done_32 rfl ?_
    refine zw_iaload dX6_done_34 bM.1 (nI_10 (by unfold vp_in; decide) bM) ?_
    rw [hrow_7 bM]
    refine zw_iadd dX6_done_35 ?_
    rw [nI_add]
    refine zw_istore dX6_done_36 (by decide) rfl ?_
    refine zw_aload dX6_done_38 rfl ?_
    refine zw_iload dX6_done_40 rfl ?_
    refine zw_aload_n dX6_done_42 rfl ?_
    refine zw_bipush (x := 6) dX6_done_43 rfl ?_
    refine zw_iaload dX6_done_45 bM.1 (nI_10 (by unfold vp_in; decide) bM) ?_
    rw [hrow_6 bM]
    refine zw_iconst (x := 1) dX6_done_46 rfl ?_
    refine zw_icmpne (tgt := 57) dX6_done_47 (by decide) (fun c47 => ?_) (fun c47 => ?_)
    · refine zw_aload dX6_done_57 rfl ?_
      refine zw_iload dX6_done_59 rfl ?_
      refine zw_iaload dX6_done_61 iM.1 (zin_of iM.2.2.2.1 (vp_in_nI (by rw [List.length_set]; omega) (by rw [List.length_set]; omega))) ?_
      obtain ⟨sv, hsv⟩ : ∃ sv, st[L + m.dv]? = some sv := ⟨_, List.getElem?_eq_getElem (by omega)⟩
      have hs2 : zI σ2 (zn σ) (L + m.dv) = sv := iM.2.2.2.2 _ _ (by rw [List.getElem?_set, if_neg (by omega)]; exact hsv)
      rw [nI_clamp (show L + m.dv < 2 ^ 31 by omega), hs2]
      refine zw_aload_n dX6_done_62 rfl ?_
      refine zw_bipush (x := 8) dX6_done_63 rfl ?_
      refine zw_iaload dX6_done_65 bM.1 (nI_10 (by unfold vp_in; decide) bM) ?_
      rw [hrow_8 bM]
      refine zw_iadd dX6_done_66 ?_
      refine zw_iastore dX6_done_67 iM.1 iM.2.1 (zin_of iM.2.2.2.1 (vp_in_nI (by rw [List.length_set]; omega) (by rw [List.length_set]; omega))) ?_
      have eV : hVal L st m = sv + m.dn := by
        unfold hVal
        rw [if_neg c47]
        rw [hsv]
        rfl
      rw [nI_clamp (show L + m.dv < 2 ^ 31 by omega)]
      have xM3 : zX σ (zsI σ2 (zn σ) (L + m.dv) (sv + m.dn)) := xM.I (Nat.le_refl _)
      have iM3 : iI (zsI σ2 (zn σ) (L + m.dv) (sv + m.dn)) (zn σ) ((st.set p m.t).set (L + m.dv) (sv + m.dn)) := iM.set _ _
      have nM3 : zn (zsI σ2 (zn σ) (L + m.dv) (sv + m.dn)) = zn σ + 1 := nM
      rw [← eV] at xM3 iM3 nM3 ⊢
      generalize zsI σ2 (zn σ) (L + m.dv) (hVal L st m) = σ3 at xM3 iM3 nM3 ⊢
      clear xM iM nM bM lM tM kM gM uM
      rename zX σ σ3 => xM
      rename iI σ3 (zn σ) _ => iM
      rename zn σ3 = zn σ + 1 => nM
      have bM := hb.x xM
      have lM := ila.x xM
      have tM := iga.x xM
      have kM : zK σ3 30 = 6 := ((xM.2 30 h30).1).trans kH
      have gM : zG σ3 6 0 30 = some la := ((xM.2 30 h30).2.2.2.2 6 0).2.trans gla
      have uM : zG σ3 6 1 30 = some ga := ((xM.2 30 h30).2.2.2.2 6 1).2.trans gga
      have vM : zI σ3 (zn σ) (L + m.dv) = hVal L st m := iM.2.2.2.2 _ _ (by rw [List.getElem?_set, if_pos rfl, if_pos (by rw [List.length_set]; omega)])
      refine zw_aload dX6_done_68 rfl ?_
      refine zw_iload dX6_done_70 rfl ?_
      refine zw_iaload dX6_done_72 iM.1 (zin_of iM.2.2.2.1 (vp_in_nI (by rw [List.length_set, List.length_set]; omega) (by rw [List.length_set, List.length_set]; omega))) ?_
      rw [nI_clamp (show L + m.dv < 2 ^ 31 by omega), vM]
      refine zw_iflt (tgt := 93) dX6_done_73 (by decide) (fun c73 => ?_) (fun c73 => ?_)
      · refine zw_null dX6_done_93 ?_
        refine zw_goto (tgt := 99) dX6_done_94 (by decide) ?_
        refine zw_aretN dX6_done_99 rfl (Or.inr ⟨_, rfl⟩) ?_
        unfold hDn at hD
        rw [if_neg c20] at hD
        rw [if_pos c73] at hD
        exact ⟨rfl, xM, nM⟩
      · refine zw_aload dX6_done_76 rfl ?_
        refine zw_iload dX6_done_78 rfl ?_
        refine zw_iaload dX6_done_80 iM.1 (zin_of iM.2.2.2.1 (vp_in_nI (by rw [List.length_set, List.length_set]; omega) (by rw [List.length_set, List.length_set]; omega))) ?_
        rw [nI_clamp (show L + m.dv < 2 ^ 31 by omega), vM]
        refine zw_aload_n dX6_done_81 rfl ?_
        refine zw_getR dX6_done_82 zfX6_13 rfl kM (by decide) uM ?_
        refine zw_aload_n dX6_done_85 rfl ?_
        refine zw_bipush (x := 7) dX6_done_86 rfl ?_
        refine zw_iaload dX6_done_88 bM.1 (nI_10 (by unfold vp_in; decide) bM) ?_
        rw [hrow_7 bM]
        refine zw_iaload dX6_done_89 tM.1 (zin_of tM.2.2.2.1 (vp_in_nI hdl (by omega))) ?_
        obtain ⟨gd, hgd'⟩ : ∃ gd, G[m.dv]? = some gd := ⟨_, List.getElem?_eq_getElem hdl⟩
        have hgd : (G[m.dv]?).getD 0 = gd := by rw [hgd']; rfl
        have hgz : zI σ3 ga m.dv = gd := tM.2.2.2.2 _ _ hgd'
        rw [nI_clamp (show m.dv < 2 ^ 31 by omega), hgz]
        refine zw_icmple (tgt := 97) dX6_done_90 (by decide) (fun c90 => ?_) (fun c90 => ?_)
        · refine zw_aload dX6_done_97 rfl ?_
          refine zw_aret dX6_done_99 rfl (Or.inr ⟨_, rfl⟩) ?_
          unfold hDn at hD
          rw [if_neg c20, if_neg c73, hgd, if_pos c90] at hD
          cases hD
        · refine zw_null dX6_done_93 ?_
          refine zw_goto (tgt := 99) dX6_done_94 (by decide) ?_
          refine zw_aretN dX6_done_99 rfl (Or.inr ⟨_, rfl⟩) ?_
          unfold hDn at hD
          rw [if_neg c20] at hD
          rw [if_neg c73, hgd, if_neg c90] at hD
          exact ⟨rfl, xM, nM⟩
    · refine zw_aload_n dX6_done_50 rfl ?_
      refine zw_bipush (x := 8) dX6_done_51 rfl ?_
      refine zw_iaload dX6_done_53 bM.1 (nI_10 (by unfold vp_in; decide) bM) ?_
      rw [hrow_8 bM]
      refine zw_goto (tgt := 67) dX6_done_54 (by decide) ?_
      refine zw_iastore dX6_done_67 iM.1 iM.2.1 (zin_of iM.2.2.2.1 (vp_in_nI (by rw [List.length_set]; omega) (by rw [List.length_set]; omega))) ?_
      have eV : hVal L st m = m.dn := by
        unfold hVal
        rw [if_pos c47]
      rw [nI_clamp (show L + m.dv < 2 ^ 31 by omega)]
      have xM3 : zX σ (zsI σ2 (zn σ) (L + m.dv) (m.dn)) := xM.I (Nat.le_refl _)
      have iM3 : iI (zsI σ2 (zn σ) (L + m.dv) (m.dn)) (zn σ) ((st.set p m.t).set (L + m.dv) (m.dn)) := iM.set _ _
      have nM3 : zn (zsI σ2 (zn σ) (L + m.dv) (m.dn)) = zn σ + 1 := nM
      rw [← eV] at xM3 iM3 nM3 ⊢
      generalize zsI σ2 (zn σ) (L + m.dv) (hVal L st m) = σ3 at xM3 iM3 nM3 ⊢
      clear xM iM nM bM lM tM kM gM uM
      rename zX σ σ3 => xM
      rename iI σ3 (zn σ) _ => iM
      rename zn σ3 = zn σ + 1 => nM
      have bM := hb.x xM
      have lM := ila.x xM
      have tM := iga.x xM
      have kM : zK σ3 30 = 6 := ((xM.2 30 h30).1).trans kH
      have gM : zG σ3 6 0 30 = some la := ((xM.2 30 h30).2.2.2.2 6 0).2.trans gla
      have uM : zG σ3 6 1 30 = some ga := ((xM.2 30 h30).2.2.2.2 6 1).2.trans gga
      have vM : zI σ3 (zn σ) (L + m.dv) = hVal L st m := iM.2.2.2.2 _ _ (by rw [List.getElem?_set, if_pos rfl, if_pos (by rw [List.length_set]; omega)])
      refine zw_aload dX6_done_68 rfl ?_
      refine zw_iload dX6_done_70 rfl ?_
      refine zw_iaload dX6_done_72 iM.1 (zin_of iM.2.2.2.1 (vp_in_nI (by rw [List.length_set, List.length_set]; omega) (by rw [List.length_set, List.length_set]; omega))) ?_
      rw [nI_clamp (show L + m.dv < 2 ^ 31 by omega), vM]
      refine zw_iflt (tgt := 93) dX6_done_73 (by decide) (fun c73 => ?_) (fun c73 => ?_)
      · refine zw_null dX6_done_93 ?_
        refine zw_goto (tgt := 99) dX6_done_94 (by decide) ?_
        refine zw_aretN dX6_done_99 rfl (Or.inr ⟨_, rfl⟩) ?_
        unfold hDn at hD
        rw [if_neg c20] at hD
        rw [if_pos c73] at hD
        exact ⟨rfl, xM, nM⟩
      · refine zw_aload dX6_done_76 rfl ?_
        refine zw_iload dX6_done_78 rfl ?_
        refine zw_iaload dX6_done_80 iM.1 (zin_of iM.2.2.2.1 (vp_in_nI (by rw [List.length_set, List.length_set]; omega) (by rw [List.length_set, List.length_set]; omega))) ?_
        rw [nI_clamp (show L + m.dv < 2 ^ 31 by omega), vM]
        refine zw_aload_n dX6_done_81 rfl ?_
        refine zw_getR dX6_done_82 zfX6_13 rfl kM (by decide) uM ?_
        refine zw_aload_n dX6_done_85 rfl ?_
        refine zw_bipush (x := 7) dX6_done_86 rfl ?_
        refine zw_iaload dX6_done_88 bM.1 (nI_10 (by unfold vp_in; decide) bM) ?_
        rw [hrow_7 bM]
        refine zw_iaload dX6_done_89 tM.1 (zin_of tM.2.2.2.1 (vp_in_nI hdl (by omega))) ?_
        obtain ⟨gd, hgd'⟩ : ∃ gd, G[m.dv]? = some gd := ⟨_, List.getElem?_eq_getElem hdl⟩
        have hgd : (G[m.dv]?).getD 0 = gd := by rw [hgd']; rfl
        have hgz : zI σ3 ga m.dv = gd := tM.2.2.2.2 _ _ hgd'
        rw [nI_clamp (show m.dv < 2 ^ 31 by omega), hgz]
        refine zw_icmple (tgt := 97) dX6_done_90 (by decide) (fun c90 => ?_) (fun c90 => ?_)
        · refine zw_aload dX6_done_97 rfl ?_
          refine zw_aret dX6_done_99 rfl (Or.inr ⟨_, rfl⟩) ?_
          unfold hDn at hD
          rw [if_neg c20, if_neg c73, hgd, if_pos c90] at hD
          cases hD
        · refine zw_null dX6_done_93 ?_
          refine zw_goto (tgt := 99) dX6_done_94 (by decide) ?_
          refine zw_aretN dX6_done_99 rfl (Or.inr ⟨_, rfl⟩) ?_
          unfold hDn at hD
          rw [if_neg c20] at hD
          rw [if_neg c73, hgd, if_neg c90] at hD
          exact ⟨rfl, xM, nM⟩
  · refine zw_aload dX6_done_23 rfl ?_
    refine zw_aret dX6_done_25 rfl (Or.inr ⟨_, rfl⟩) ?_
    unfold hDn at hD
    rw [if_pos c20] at hD
    cases hD
