/-! whether a move of the hand is open -/
theorem hrow_nn {i : Nat} (h : i < 2 ^ 31) : nI i = nI i := rfl
set_option maxHeartbeats 4000000 in
set_option maxRecDepth 100000 in
theorem c_X6_isOpen_some {l : Launch} {σ : zS} {L p a b : Nat} {G st : List Int32} {m : hMv} (hgr : hGr σ L G) (ha : iI σ a st) (hb : iI σ b m.row) (hlen : st.length = L + G.length) (hL : st.length < 1000) (hp : p < L) (hdv : m.ds ≠ 0 → m.dv < G.length) (hgv : m.gs ≠ 0 → m.gv < G.length) {r : List Int32} (hD : hDn L G st p m = some r) : zAM l zmX6_isOpen 2 55 1 st.length [.ref 30, .ref a, .int (nI p), .ref b] σ (fun v σ' => v = some (.int (zb (hOpn L G st p m))) ∧ zX σ σ') := by
  refine zAM.of (by decide +kernel) (Nat.le_of_ble_eq_true rfl) ?_
  obtain ⟨kH, h30, ⟨la, ls, gla, ila, lla⟩, ga, gga, iga⟩ := id hgr
  have bM := hb
  have aM := ha
  have xM := zX.rf σ
  have kM := kH
  refine zw_aload_n dX6_isOpen_0 rfl ?_
  refine zw_iload_n dX6_isOpen_1 rfl ?_
  refine zw_iaload dX6_isOpen_2 aM.1 (zin_of aM.2.2.2.1 (vp_in_nI (by omega) (by omega))) ?_
  obtain ⟨sp, hsp⟩ : ∃ sp, st[p]? = some sp := ⟨_, List.getElem?_eq_getElem (by omega)⟩
  rw [nI_clamp (show p < 2 ^ 31 by omega), ha.2.2.2.2 p sp hsp]
  refine zw_aload_n dX6_isOpen_3 rfl ?_
  refine zw_iconst (x := 0) dX6_isOpen_4 rfl ?_
  refine zw_iaload dX6_isOpen_5 bM.1 (nI_10 (by unfold vp_in; decide) bM) ?_
  rw [hrow_0 bM]
  refine zw_icmpne (tgt := 19) dX6_isOpen_6 (by decide) (fun c6 => ?_) (fun c6 => ?_)
  · refine zw_iconst (x := 0) dX6_isOpen_19 rfl ?_
    refine zw_iret dX6_isOpen_20 rfl rfl ?_
    have e : hOpn L G st p m = false := by
      unfold hOpn
      rw [hsp, decide_eq_false (fun q => c6 (Option.some.inj q))]
      rfl
    rw [e]
    exact ⟨rfl, xM⟩
  · refine zw_aload_n dX6_isOpen_9 rfl ?_
    refine zw_aload_n dX6_isOpen_10 rfl ?_
    refine zw_iload_n dX6_isOpen_11 rfl ?_
    refine zw_aload_n dX6_isOpen_12 rfl ?_
    refine zw_callV (y' := zmX6_done) dX6_isOpen_13 zlX6_43 zmX6_done_ok kM (by decide) rfl (c_X6_done_some hgr ha hb hlen hL hp hdv hD) rfl rfl (Nat.le_of_ble_eq_true rfl) ⟨Nat.le_of_ble_eq_true rfl, Nat.le_of_ble_eq_true rfl⟩ ⟨Nat.le_of_ble_eq_true rfl, show 0 + st.length ≤ st.length by omega⟩ ?_
    intro v13 s13 q13
    clear xM kM
    obtain ⟨rfl, xM, nM, iM⟩ := q13
    clear bM
    have bM := hb.x xM
    have lM := ila.x xM
    have tM := iga.x xM
    have kM : zK s13 30 = 6 := ((xM.2 30 h30).1).trans kH
    have gM : zG s13 6 0 30 = some la := ((xM.2 30 h30).2.2.2.2 6 0).2.trans gla
    have uM : zG s13 6 1 30 = some ga := ((xM.2 30 h30).2.2.2.2 6 1).2.trans gga
    have aM := ha.x xM
    refine zw_ifnonnull (tgt := 21) dX6_isOpen_16 (by decide) ?_
    refine zw_aload_n dX6_isOpen_21 rfl ?_
    refine zw_iconst (x := 3) dX6_isOpen_22 rfl ?_
    refine zw_iaload dX6_isOpen_23 bM.1 (nI_10 (by unfold vp_in; decide) bM) ?_
    rw [hrow_3 bM]
    refine zw_ifne (tgt := 31) dX6_isOpen_24 (by decide) (fun c24 => ?_) (fun c24 => ?_)
    · have hgl := hgv c24
      obtain ⟨sv, hsv⟩ : ∃ sv, st[L + m.gv]? = some sv := ⟨_, List.getElem?_eq_getElem (by omega)⟩
      refine zw_aload_n dX6_isOpen_31 rfl ?_
      refine zw_aload_n dX6_isOpen_32 rfl ?_
      refine zw_getR dX6_isOpen_33 zfX6_7 rfl kM (by decide) gM ?_
      refine zw_alen (t := 0) dX6_isOpen_36 lM.1 (by decide) ?_
      rw [lM.2.2.2.1, lla]
      refine zw_aload_n dX6_isOpen_37 rfl ?_
      refine zw_iconst (x := 4) dX6_isOpen_38 rfl ?_
      refine zw_iaload dX6_isOpen_39 bM.1 (nI_10 (by unfold vp_in; decide) bM) ?_
      rw [hrow_4 bM]
      refine zw_iadd dX6_isOpen_40 ?_
      rw [nI_add]
      refine zw_iaload dX6_isOpen_41 aM.1 (zin_of aM.2.2.2.1 (vp_in_nI (by omega) (by omega))) ?_
      rw [nI_clamp (show L + m.gv < 2 ^ 31 by omega), aM.2.2.2.2 _ sv hsv]
      refine zw_istore dX6_isOpen_42 (by decide) rfl ?_
      refine zw_aload_n dX6_isOpen_44 rfl ?_
      refine zw_iconst (x := 3) dX6_isOpen_45 rfl ?_
      refine zw_iaload dX6_isOpen_46 bM.1 (nI_10 (by unfold vp_in; decide) bM) ?_
      rw [hrow_3 bM]
      refine zw_ifeq (tgt := 110) dX6_isOpen_47 (by decide) (fun c47 => ?_) (fun c47 => ?_)
      · exact absurd c47 c24
      · refine zw_aload_n dX6_isOpen_50 rfl ?_
        refine zw_iconst (x := 3) dX6_isOpen_51 rfl ?_
        refine zw_iaload dX6_isOpen_52 bM.1 (nI_10 (by unfold vp_in; decide) bM) ?_
        rw [hrow_3 bM]
        refine zw_iconst (x := 1) dX6_isOpen_53 rfl ?_
        refine zw_icmpne (tgt := 65) dX6_isOpen_54 (by decide) (fun c54 => ?_) (fun c54 => ?_)
        · refine zw_aload_n dX6_isOpen_65 rfl ?_
          refine zw_iconst (x := 3) dX6_isOpen_66 rfl ?_
          refine zw_iaload dX6_isOpen_67 bM.1 (nI_10 (by unfold vp_in; decide) bM) ?_
          rw [hrow_3 bM]
          refine zw_iconst (x := 2) dX6_isOpen_68 rfl ?_
          refine zw_icmpne (tgt := 80) dX6_isOpen_69 (by decide) (fun c69 => ?_) (fun c69 => ?_)
          · refine zw_aload_n dX6_isOpen_80 rfl ?_
            refine zw_iconst (x := 3) dX6_isOpen_81 rfl ?_
            refine zw_iaload dX6_isOpen_82 bM.1 (nI_10 (by unfold vp_in; decide) bM) ?_
            rw [hrow_3 bM]
            refine zw_iconst (x := 3) dX6_isOpen_83 rfl ?_
            refine zw_icmpne (tgt := 95) dX6_isOpen_84 (by decide) (fun c84 => ?_) (fun c84 => ?_)
            · refine zw_aload_n dX6_isOpen_95 rfl ?_
              refine zw_iconst (x := 3) dX6_isOpen_96 rfl ?_
              refine zw_iaload dX6_isOpen_97 bM.1 (nI_10 (by unfold vp_in; decide) bM) ?_
              rw [hrow_3 bM]
              refine zw_iconst (x := 4) dX6_isOpen_98 rfl ?_
              refine zw_icmpne (tgt := 114) dX6_isOpen_99 (by decide) (fun c99 => ?_) (fun c99 => ?_)
              · refine zw_iconst (x := 0) dX6_isOpen_114 rfl ?_
                refine zw_iret dX6_isOpen_115 rfl rfl ?_
                have e : hOpn L G st p m = false := by
                  unfold hOpn
                  rw [hsp, hD, decide_eq_true (show some sp = some m.f by rw [c6])]
                  rw [hsv]
                  simp [c24, c54, c69, c84, c99]
                rw [e]
                exact ⟨rfl, xM⟩
              · refine zw_iload dX6_isOpen_102 rfl ?_
                refine zw_aload_n dX6_isOpen_104 rfl ?_
                refine zw_iconst (x := 5) dX6_isOpen_105 rfl ?_
                refine zw_iaload dX6_isOpen_106 bM.1 (nI_10 (by unfold vp_in; decide) bM) ?_
                rw [hrow_5 bM]
                refine zw_icmple (tgt := 114) dX6_isOpen_107 (by decide) (fun c107 => ?_) (fun c107 => ?_)
                · refine zw_iconst (x := 0) dX6_isOpen_114 rfl ?_
                  refine zw_iret dX6_isOpen_115 rfl rfl ?_
                  have d107 : ¬ m.gn < sv := Int32.not_lt.mpr c107
                  have e : hOpn L G st p m = false := by
                    unfold hOpn
                    rw [hsp, hD, decide_eq_true (show some sp = some m.f by rw [c6])]
                    rw [hsv]
                    simp [c24, c54, c69, c84, c99, d107]
                  rw [e]
                  exact ⟨rfl, xM⟩
                · refine zw_iconst (x := 1) dX6_isOpen_110 rfl ?_
                  refine zw_goto (tgt := 115) dX6_isOpen_111 (by decide) ?_
                  refine zw_iret dX6_isOpen_115 rfl rfl ?_
                  have d107 : m.gn < sv := Int32.not_le.mp c107
                  have e : hOpn L G st p m = true := by
                    unfold hOpn
                    rw [hsp, hD, decide_eq_true (show some sp = some m.f by rw [c6])]
                    rw [hsv]
                    simp [c24, c54, c69, c84, c99, d107]
                  rw [e]
                  exact ⟨rfl, xM⟩
            · refine zw_iload dX6_isOpen_87 rfl ?_
              refine zw_aload_n dX6_isOpen_89 rfl ?_
              refine zw_iconst (x := 5) dX6_isOpen_90 rfl ?_
              refine zw_iaload dX6_isOpen_91 bM.1 (nI_10 (by unfold vp_in; decide) bM) ?_
              rw [hrow_5 bM]
              refine zw_icmplt (tgt := 110) dX6_isOpen_92 (by decide) (fun c92 => ?_) (fun c92 => ?_)
              · refine zw_iconst (x := 1) dX6_isOpen_110 rfl ?_
                refine zw_goto (tgt := 115) dX6_isOpen_111 (by decide) ?_
                refine zw_iret dX6_isOpen_115 rfl rfl ?_
                have e : hOpn L G st p m = true := by
                  unfold hOpn
                  rw [hsp, hD, decide_eq_true (show some sp = some m.f by rw [c6])]
                  rw [hsv]
                  simp [c24, c54, c69, c84, c92]
                rw [e]
                exact ⟨rfl, xM⟩
              · refine zw_aload_n dX6_isOpen_95 rfl ?_
                refine zw_iconst (x := 3) dX6_isOpen_96 rfl ?_
                refine zw_iaload dX6_isOpen_97 bM.1 (nI_10 (by unfold vp_in; decide) bM) ?_
                rw [hrow_3 bM]
                refine zw_iconst (x := 4) dX6_isOpen_98 rfl ?_
                refine zw_icmpne (tgt := 114) dX6_isOpen_99 (by decide) (fun c99 => ?_) (fun c99 => ?_)
                · refine zw_iconst (x := 0) dX6_isOpen_114 rfl ?_
                  refine zw_iret dX6_isOpen_115 rfl rfl ?_
                  have e : hOpn L G st p m = false := by
                    unfold hOpn
                    rw [hsp, hD, decide_eq_true (show some sp = some m.f by rw [c6])]
                    rw [hsv]
                    simp [c24, c54, c69, c84, c92, c99]
                  rw [e]
                  exact ⟨rfl, xM⟩
                · refine zw_iload dX6_isOpen_102 rfl ?_
                  refine zw_aload_n dX6_isOpen_104 rfl ?_
                  refine zw_iconst (x := 5) dX6_isOpen_105 rfl ?_
                  refine zw_iaload dX6_isOpen_106 bM.1 (nI_10 (by unfold vp_in; decide) bM) ?_
                  rw [hrow_5 bM]
                  refine zw_icmple (tgt := 114) dX6_isOpen_107 (by decide) (fun c107 => ?_) (fun c107 => ?_)
                  · refine zw_iconst (x := 0) dX6_isOpen_114 rfl ?_
                    refine zw_iret dX6_isOpen_115 rfl rfl ?_
                    exact absurd (c84.symm.trans c99) (by decide)
                  · refine zw_iconst (x := 1) dX6_isOpen_110 rfl ?_
                    refine zw_goto (tgt := 115) dX6_isOpen_111 (by decide) ?_
                    refine zw_iret dX6_isOpen_115 rfl rfl ?_
                    exact absurd (c84.symm.trans c99) (by decide)
          · refine zw_iload dX6_isOpen_72 rfl ?_
            refine zw_aload_n dX6_isOpen_74 rfl ?_
            refine zw_iconst (x := 5) dX6_isOpen_75 rfl ?_
            refine zw_iaload dX6_isOpen_76 bM.1 (nI_10 (by unfold vp_in; decide) bM) ?_
            rw [hrow_5 bM]
            refine zw_icmpne (tgt := 110) dX6_isOpen_77 (by decide) (fun c77 => ?_) (fun c77 => ?_)
            · refine zw_iconst (x := 1) dX6_isOpen_110 rfl ?_
              refine zw_goto (tgt := 115) dX6_isOpen_111 (by decide) ?_
              refine zw_iret dX6_isOpen_115 rfl rfl ?_
              have e : hOpn L G st p m = true := by
                unfold hOpn
                rw [hsp, hD, decide_eq_true (show some sp = some m.f by rw [c6])]
                rw [hsv]
                simp [c24, c54, c69, c77]
              rw [e]
              exact ⟨rfl, xM⟩
            · refine zw_aload_n dX6_isOpen_80 rfl ?_
              refine zw_iconst (x := 3) dX6_isOpen_81 rfl ?_
              refine zw_iaload dX6_isOpen_82 bM.1 (nI_10 (by unfold vp_in; decide) bM) ?_
              rw [hrow_3 bM]
              refine zw_iconst (x := 3) dX6_isOpen_83 rfl ?_
              refine zw_icmpne (tgt := 95) dX6_isOpen_84 (by decide) (fun c84 => ?_) (fun c84 => ?_)
              · refine zw_aload_n dX6_isOpen_95 rfl ?_
                refine zw_iconst (x := 3) dX6_isOpen_96 rfl ?_
                refine zw_iaload dX6_isOpen_97 bM.1 (nI_10 (by unfold vp_in; decide) bM) ?_
                rw [hrow_3 bM]
                refine zw_iconst (x := 4) dX6_isOpen_98 rfl ?_
                refine zw_icmpne (tgt := 114) dX6_isOpen_99 (by decide) (fun c99 => ?_) (fun c99 => ?_)
                · refine zw_iconst (x := 0) dX6_isOpen_114 rfl ?_
                  refine zw_iret dX6_isOpen_115 rfl rfl ?_
                  have e : hOpn L G st p m = false := by
                    unfold hOpn
                    rw [hsp, hD, decide_eq_true (show some sp = some m.f by rw [c6])]
                    rw [hsv]
                    simp [c24, c54, c69, c77, c84, c99]
                  rw [e]
                  exact ⟨rfl, xM⟩
                · refine zw_iload dX6_isOpen_102 rfl ?_
                  refine zw_aload_n dX6_isOpen_104 rfl ?_
                  refine zw_iconst (x := 5) dX6_isOpen_105 rfl ?_
                  refine zw_iaload dX6_isOpen_106 bM.1 (nI_10 (by unfold vp_in; decide) bM) ?_
                  rw [hrow_5 bM]
                  refine zw_icmple (tgt := 114) dX6_isOpen_107 (by decide) (fun c107 => ?_) (fun c107 => ?_)
                  · refine zw_iconst (x := 0) dX6_isOpen_114 rfl ?_
                    refine zw_iret dX6_isOpen_115 rfl rfl ?_
                    exact absurd (c69.symm.trans c99) (by decide)
                  · refine zw_iconst (x := 1) dX6_isOpen_110 rfl ?_
                    refine zw_goto (tgt := 115) dX6_isOpen_111 (by decide) ?_
                    refine zw_iret dX6_isOpen_115 rfl rfl ?_
                    exact absurd (c69.symm.trans c99) (by decide)
              · refine zw_iload dX6_isOpen_87 rfl ?_
                refine zw_aload_n dX6_isOpen_89 rfl ?_
                refine zw_iconst (x := 5) dX6_isOpen_90 rfl ?_
                refine zw_iaload dX6_isOpen_91 bM.1 (nI_10 (by unfold vp_in; decide) bM) ?_
                rw [hrow_5 bM]
                refine zw_icmplt (tgt := 110) dX6_isOpen_92 (by decide) (fun c92 => ?_) (fun c92 => ?_)
                · refine zw_iconst (x := 1) dX6_isOpen_110 rfl ?_
                  refine zw_goto (tgt := 115) dX6_isOpen_111 (by decide) ?_
                  refine zw_iret dX6_isOpen_115 rfl rfl ?_
                  exact absurd (c69.symm.trans c84) (by decide)
                · refine zw_aload_n dX6_isOpen_95 rfl ?_
                  refine zw_iconst (x := 3) dX6_isOpen_96 rfl ?_
                  refine zw_iaload dX6_isOpen_97 bM.1 (nI_10 (by unfold vp_in; decide) bM) ?_
                  rw [hrow_3 bM]
                  refine zw_iconst (x := 4) dX6_isOpen_98 rfl ?_
                  refine zw_icmpne (tgt := 114) dX6_isOpen_99 (by decide) (fun c99 => ?_) (fun c99 => ?_)
                  · refine zw_iconst (x := 0) dX6_isOpen_114 rfl ?_
                    refine zw_iret dX6_isOpen_115 rfl rfl ?_
                    exact absurd (c69.symm.trans c84) (by decide)
                  · refine zw_iload dX6_isOpen_102 rfl ?_
                    refine zw_aload_n dX6_isOpen_104 rfl ?_
                    refine zw_iconst (x := 5) dX6_isOpen_105 rfl ?_
                    refine zw_iaload dX6_isOpen_106 bM.1 (nI_10 (by unfold vp_in; decide) bM) ?_
                    rw [hrow_5 bM]
                    refine zw_icmple (tgt := 114) dX6_isOpen_107 (by decide) (fun c107 => ?_) (fun c107 => ?_)
                    · refine zw_iconst (x := 0) dX6_isOpen_114 rfl ?_
                      refine zw_iret dX6_isOpen_115 rfl rfl ?_
                      exact absurd (c69.symm.trans c84) (by decide)
                    · refine zw_iconst (x := 1) dX6_isOpen_110 rfl ?_
                      refine zw_goto (tgt := 115) dX6_isOpen_111 (by decide) ?_
                      refine zw_iret dX6_isOpen_115 rfl rfl ?_
                      exact absurd (c69.symm.trans c84) (by decide)
        · refine zw_iload dX6_isOpen_57 rfl ?_
          refine zw_aload_n dX6_isOpen_59 rfl ?_
          refine zw_iconst (x := 5) dX6_isOpen_60 rfl ?_
          refine zw_iaload dX6_isOpen_61 bM.1 (nI_10 (by unfold vp_in; decide) bM) ?_
          rw [hrow_5 bM]
          refine zw_icmpeq (tgt := 110) dX6_isOpen_62 (by decide) (fun c62 => ?_) (fun c62 => ?_)
          · refine zw_iconst (x := 1) dX6_isOpen_110 rfl ?_
            refine zw_goto (tgt := 115) dX6_isOpen_111 (by decide) ?_
            refine zw_iret dX6_isOpen_115 rfl rfl ?_
            have e : hOpn L G st p m = true := by
              unfold hOpn
              rw [hsp, hD, decide_eq_true (show some sp = some m.f by rw [c6])]
              rw [hsv]
              simp [c24, c54, c62]
            rw [e]
            exact ⟨rfl, xM⟩
          · refine zw_aload_n dX6_isOpen_65 rfl ?_
            refine zw_iconst (x := 3) dX6_isOpen_66 rfl ?_
            refine zw_iaload dX6_isOpen_67 bM.1 (nI_10 (by unfold vp_in; decide) bM) ?_
            rw [hrow_3 bM]
            refine zw_iconst (x := 2) dX6_isOpen_68 rfl ?_
            refine zw_icmpne (tgt := 80) dX6_isOpen_69 (by decide) (fun c69 => ?_) (fun c69 => ?_)
            · refine zw_aload_n dX6_isOpen_80 rfl ?_
              refine zw_iconst (x := 3) dX6_isOpen_81 rfl ?_
              refine zw_iaload dX6_isOpen_82 bM.1 (nI_10 (by unfold vp_in; decide) bM) ?_
              rw [hrow_3 bM]
              refine zw_iconst (x := 3) dX6_isOpen_83 rfl ?_
              refine zw_icmpne (tgt := 95) dX6_isOpen_84 (by decide) (fun c84 => ?_) (fun c84 => ?_)
              · refine zw_aload_n dX6_isOpen_95 rfl ?_
                refine zw_iconst (x := 3) dX6_isOpen_96 rfl ?_
                refine zw_iaload dX6_isOpen_97 bM.1 (nI_10 (by unfold vp_in; decide) bM) ?_
                rw [hrow_3 bM]
                refine zw_iconst (x := 4) dX6_isOpen_98 rfl ?_
                refine zw_icmpne (tgt := 114) dX6_isOpen_99 (by decide) (fun c99 => ?_) (fun c99 => ?_)
                · refine zw_iconst (x := 0) dX6_isOpen_114 rfl ?_
                  refine zw_iret dX6_isOpen_115 rfl rfl ?_
                  have e : hOpn L G st p m = false := by
                    unfold hOpn
                    rw [hsp, hD, decide_eq_true (show some sp = some m.f by rw [c6])]
                    rw [hsv]
                    simp [c24, c54, c62, c69, c84, c99]
                  rw [e]
                  exact ⟨rfl, xM⟩
                · refine zw_iload dX6_isOpen_102 rfl ?_
                  refine zw_aload_n dX6_isOpen_104 rfl ?_
                  refine zw_iconst (x := 5) dX6_isOpen_105 rfl ?_
                  refine zw_iaload dX6_isOpen_106 bM.1 (nI_10 (by unfold vp_in; decide) bM) ?_
                  rw [hrow_5 bM]
                  refine zw_icmple (tgt := 114) dX6_isOpen_107 (by decide) (fun c107 => ?_) (fun c107 => ?_)
                  · refine zw_iconst (x := 0) dX6_isOpen_114 rfl ?_
                    refine zw_iret dX6_isOpen_115 rfl rfl ?_
                    exact absurd (c54.symm.trans c99) (by decide)
                  · refine zw_iconst (x := 1) dX6_isOpen_110 rfl ?_
                    refine zw_goto (tgt := 115) dX6_isOpen_111 (by decide) ?_
                    refine zw_iret dX6_isOpen_115 rfl rfl ?_
                    exact absurd (c54.symm.trans c99) (by decide)
              · refine zw_iload dX6_isOpen_87 rfl ?_
                refine zw_aload_n dX6_isOpen_89 rfl ?_
                refine zw_iconst (x := 5) dX6_isOpen_90 rfl ?_
                refine zw_iaload dX6_isOpen_91 bM.1 (nI_10 (by unfold vp_in; decide) bM) ?_
                rw [hrow_5 bM]
                refine zw_icmplt (tgt := 110) dX6_isOpen_92 (by decide) (fun c92 => ?_) (fun c92 => ?_)
                · refine zw_iconst (x := 1) dX6_isOpen_110 rfl ?_
                  refine zw_goto (tgt := 115) dX6_isOpen_111 (by decide) ?_
                  refine zw_iret dX6_isOpen_115 rfl rfl ?_
                  exact absurd (c54.symm.trans c84) (by decide)
                · refine zw_aload_n dX6_isOpen_95 rfl ?_
                  refine zw_iconst (x := 3) dX6_isOpen_96 rfl ?_
                  refine zw_iaload dX6_isOpen_97 bM.1 (nI_10 (by unfold vp_in; decide) bM) ?_
                  rw [hrow_3 bM]
                  refine zw_iconst (x := 4) dX6_isOpen_98 rfl ?_
                  refine zw_icmpne (tgt := 114) dX6_isOpen_99 (by decide) (fun c99 => ?_) (fun c99 => ?_)
                  · refine zw_iconst (x := 0) dX6_isOpen_114 rfl ?_
                    refine zw_iret dX6_isOpen_115 rfl rfl ?_
                    exact absurd (c54.symm.trans c84) (by decide)
                  · refine zw_iload dX6_isOpen_102 rfl ?_
                    refine zw_aload_n dX6_isOpen_104 rfl ?_
                    refine zw_iconst (x := 5) dX6_isOpen_105 rfl ?_
                    refine zw_iaload dX6_isOpen_106 bM.1 (nI_10 (by unfold vp_in; decide) bM) ?_
                    rw [hrow_5 bM]
                    refine zw_icmple (tgt := 114) dX6_isOpen_107 (by decide) (fun c107 => ?_) (fun c107 => ?_)
                    · refine zw_iconst (x := 0) dX6_isOpen_114 rfl ?_
                      refine zw_iret dX6_isOpen_115 rfl rfl ?_
                      exact absurd (c54.symm.trans c84) (by decide)
                    · refine zw_iconst (x := 1) dX6_isOpen_110 rfl ?_
                      refine zw_goto (tgt := 115) dX6_isOpen_111 (by decide) ?_
                      refine zw_iret dX6_isOpen_115 rfl rfl ?_
                      exact absurd (c54.symm.trans c84) (by decide)
            · refine zw_iload dX6_isOpen_72 rfl ?_
              refine zw_aload_n dX6_isOpen_74 rfl ?_
              refine zw_iconst (x := 5) dX6_isOpen_75 rfl ?_
              refine zw_iaload dX6_isOpen_76 bM.1 (nI_10 (by unfold vp_in; decide) bM) ?_
              rw [hrow_5 bM]
              refine zw_icmpne (tgt := 110) dX6_isOpen_77 (by decide) (fun c77 => ?_) (fun c77 => ?_)
              · refine zw_iconst (x := 1) dX6_isOpen_110 rfl ?_
                refine zw_goto (tgt := 115) dX6_isOpen_111 (by decide) ?_
                refine zw_iret dX6_isOpen_115 rfl rfl ?_
                exact absurd (c54.symm.trans c69) (by decide)
              · refine zw_aload_n dX6_isOpen_80 rfl ?_
                refine zw_iconst (x := 3) dX6_isOpen_81 rfl ?_
                refine zw_iaload dX6_isOpen_82 bM.1 (nI_10 (by unfold vp_in; decide) bM) ?_
                rw [hrow_3 bM]
                refine zw_iconst (x := 3) dX6_isOpen_83 rfl ?_
                refine zw_icmpne (tgt := 95) dX6_isOpen_84 (by decide) (fun c84 => ?_) (fun c84 => ?_)
                · refine zw_aload_n dX6_isOpen_95 rfl ?_
                  refine zw_iconst (x := 3) dX6_isOpen_96 rfl ?_
                  refine zw_iaload dX6_isOpen_97 bM.1 (nI_10 (by unfold vp_in; decide) bM) ?_
                  rw [hrow_3 bM]
                  refine zw_iconst (x := 4) dX6_isOpen_98 rfl ?_
                  refine zw_icmpne (tgt := 114) dX6_isOpen_99 (by decide) (fun c99 => ?_) (fun c99 => ?_)
                  · refine zw_iconst (x := 0) dX6_isOpen_114 rfl ?_
                    refine zw_iret dX6_isOpen_115 rfl rfl ?_
                    exact absurd (c54.symm.trans c69) (by decide)
                  · refine zw_iload dX6_isOpen_102 rfl ?_
                    refine zw_aload_n dX6_isOpen_104 rfl ?_
                    refine zw_iconst (x := 5) dX6_isOpen_105 rfl ?_
                    refine zw_iaload dX6_isOpen_106 bM.1 (nI_10 (by unfold vp_in; decide) bM) ?_
                    rw [hrow_5 bM]
                    refine zw_icmple (tgt := 114) dX6_isOpen_107 (by decide) (fun c107 => ?_) (fun c107 => ?_)
                    · refine zw_iconst (x := 0) dX6_isOpen_114 rfl ?_
                      refine zw_iret dX6_isOpen_115 rfl rfl ?_
                      exact absurd (c54.symm.trans c69) (by decide)
                    · refine zw_iconst (x := 1) dX6_isOpen_110 rfl ?_
                      refine zw_goto (tgt := 115) dX6_isOpen_111 (by decide) ?_
                      refine zw_iret dX6_isOpen_115 rfl rfl ?_
                      exact absurd (c54.symm.trans c69) (by decide)
                · refine zw_iload dX6_isOpen_87 rfl ?_
                  refine zw_aload_n dX6_isOpen_89 rfl ?_
                  refine zw_iconst (x := 5) dX6_isOpen_90 rfl ?_
                  refine zw_iaload dX6_isOpen_91 bM.1 (nI_10 (by unfold vp_in; decide) bM) ?_
                  rw [hrow_5 bM]
                  refine zw_icmplt (tgt := 110) dX6_isOpen_92 (by decide) (fun c92 => ?_) (fun c92 => ?_)
                  · refine zw_iconst (x := 1) dX6_isOpen_110 rfl ?_
                    refine zw_goto (tgt := 115) dX6_isOpen_111 (by decide) ?_
                    refine zw_iret dX6_isOpen_115 rfl rfl ?_
                    exact absurd (c54.symm.trans c69) (by decide)
                  · refine zw_aload_n dX6_isOpen_95 rfl ?_
                    refine zw_iconst (x := 3) dX6_isOpen_96 rfl ?_
                    refine zw_iaload dX6_isOpen_97 bM.1 (nI_10 (by unfold vp_in; decide) bM) ?_
                    rw [hrow_3 bM]
                    refine zw_iconst (x := 4) dX6_isOpen_98 rfl ?_
                    refine zw_icmpne (tgt := 114) dX6_isOpen_99 (by decide) (fun c99 => ?_) (fun c99 => ?_)
                    · refine zw_iconst (x := 0) dX6_isOpen_114 rfl ?_
                      refine zw_iret dX6_isOpen_115 rfl rfl ?_
                      exact absurd (c54.symm.trans c69) (by decide)
                    · refine zw_iload dX6_isOpen_102 rfl ?_
                      refine zw_aload_n dX6_isOpen_104 rfl ?_
                      refine zw_iconst (x := 5) dX6_isOpen_105 rfl ?_
                      refine zw_iaload dX6_isOpen_106 bM.1 (nI_10 (by unfold vp_in; decide) bM) ?_
                      rw [hrow_5 bM]
                      refine zw_icmple (tgt := 114) dX6_isOpen_107 (by decide) (fun c107 => ?_) (fun c107 => ?_)
                      · refine zw_iconst (x := 0) dX6_isOpen_114 rfl ?_
                        refine zw_iret dX6_isOpen_115 rfl rfl ?_
                        exact absurd (c54.symm.trans c69) (by decide)
                      · refine zw_iconst (x := 1) dX6_isOpen_110 rfl ?_
                        refine zw_goto (tgt := 115) dX6_isOpen_111 (by decide) ?_
                        refine zw_iret dX6_isOpen_115 rfl rfl ?_
                        exact absurd (c54.symm.trans c69) (by decide)
    · refine zw_iconst (x := 0) dX6_isOpen_27 rfl ?_
      refine zw_goto (tgt := 42) dX6_isOpen_28 (by decide) ?_
      refine zw_istore dX6_isOpen_42 (by decide) rfl ?_
      refine zw_aload_n dX6_isOpen_44 rfl ?_
      refine zw_iconst (x := 3) dX6_isOpen_45 rfl ?_
      refine zw_iaload dX6_isOpen_46 bM.1 (nI_10 (by unfold vp_in; decide) bM) ?_
      rw [hrow_3 bM]
      refine zw_ifeq (tgt := 110) dX6_isOpen_47 (by decide) (fun c47 => ?_) (fun c47 => ?_)
      · refine zw_iconst (x := 1) dX6_isOpen_110 rfl ?_
        refine zw_goto (tgt := 115) dX6_isOpen_111 (by decide) ?_
        refine zw_iret dX6_isOpen_115 rfl rfl ?_
        have e : hOpn L G st p m = true := by
          unfold hOpn
          rw [hsp, hD, decide_eq_true (show some sp = some m.f by rw [c6])]
          simp [c24]
        rw [e]
        exact ⟨rfl, xM⟩
      · exact absurd c24 c47
set_option maxHeartbeats 4000000 in
set_option maxRecDepth 100000 in
theorem c_X6_isOpen_none {l : Launch} {σ : zS} {L p a b : Nat} {G st : List Int32} {m : hMv} (hgr : hGr σ L G) (ha : iI σ a st) (hb : iI σ b m.row) (hlen : st.length = L + G.length) (hL : st.length < 1000) (hp : p < L) (hdv : m.ds ≠ 0 → m.dv < G.length) (hgv : m.gs ≠ 0 → m.gv < G.length) (hD : hDn L G st p m = none) : zAM l zmX6_isOpen 2 55 1 st.length [.ref 30, .ref a, .int (nI p), .ref b] σ (fun v σ' => v = some (.int (zb (hOpn L G st p m))) ∧ zX σ σ') := by
  refine zAM.of (by decide +kernel) (Nat.le_of_ble_eq_true rfl) ?_
  obtain ⟨kH, h30, ⟨la, ls, gla, ila, lla⟩, ga, gga, iga⟩ := id hgr
  have bM := hb
  have aM := ha
  have xM := zX.rf σ
  have kM := kH
  refine zw_aload_n dX6_isOpen_0 rfl ?_
  refine zw_iload_n dX6_isOpen_1 rfl ?_
  refine zw_iaload dX6_isOpen_2 aM.1 (zin_of aM.2.2.2.1 (vp_in_nI (by omega) (by omega))) ?_
  obtain ⟨sp, hsp⟩ : ∃ sp, st[p]? = some sp := ⟨_, List.getElem?_eq_getElem (by omega)⟩
  rw [nI_clamp (show p < 2 ^ 31 by omega), ha.2.2.2.2 p sp hsp]
  refine zw_aload_n dX6_isOpen_3 rfl ?_
  refine zw_iconst (x := 0) dX6_isOpen_4 rfl ?_
  refine zw_iaload dX6_isOpen_5 bM.1 (nI_10 (by unfold vp_in; decide) bM) ?_
  rw [hrow_0 bM]
  refine zw_icmpne (tgt := 19) dX6_isOpen_6 (by decide) (fun c6 => ?_) (fun c6 => ?_)
  · refine zw_iconst (x := 0) dX6_isOpen_19 rfl ?_
    refine zw_iret dX6_isOpen_20 rfl rfl ?_
    have e : hOpn L G st p m = false := by
      unfold hOpn
      rw [hsp, decide_eq_false (fun q => c6 (Option.some.inj q))]
      rfl
    rw [e]
    exact ⟨rfl, xM⟩
  · refine zw_aload_n dX6_isOpen_9 rfl ?_
    refine zw_aload_n dX6_isOpen_10 rfl ?_
    refine zw_iload_n dX6_isOpen_11 rfl ?_
    refine zw_aload_n dX6_isOpen_12 rfl ?_
    refine zw_callV (y' := zmX6_done) dX6_isOpen_13 zlX6_43 zmX6_done_ok kM (by decide) rfl (c_X6_done_none hgr ha hb hlen hL hp hdv hD) rfl rfl (Nat.le_of_ble_eq_true rfl) ⟨Nat.le_of_ble_eq_true rfl, Nat.le_of_ble_eq_true rfl⟩ ⟨Nat.le_of_ble_eq_true rfl, show 0 + st.length ≤ st.length by omega⟩ ?_
    intro v13 s13 q13
    clear xM kM
    obtain ⟨rfl, xM, nM⟩ := q13
    clear bM
    have bM := hb.x xM
    have lM := ila.x xM
    have tM := iga.x xM
    have kM : zK s13 30 = 6 := ((xM.2 30 h30).1).trans kH
    have gM : zG s13 6 0 30 = some la := ((xM.2 30 h30).2.2.2.2 6 0).2.trans gla
    have uM : zG s13 6 1 30 = some ga := ((xM.2 30 h30).2.2.2.2 6 1).2.trans gga
    have aM := ha.x xM
    refine zw_ifnonnullN dX6_isOpen_16 ?_
    refine zw_iconst (x := 0) dX6_isOpen_19 rfl ?_
    refine zw_iret dX6_isOpen_20 rfl rfl ?_
    have e : hOpn L G st p m = false := by
      unfold hOpn
      rw [hD]
      cases decide (st[p]? = some m.f) <;> rfl
    rw [e]
    exact ⟨rfl, xM⟩
theorem c_X6_isOpen {l : Launch} {σ : zS} {L p a b : Nat} {G st : List Int32} {m : hMv} (hgr : hGr σ L G) (ha : iI σ a st) (hb : iI σ b m.row) (hlen : st.length = L + G.length) (hL : st.length < 1000) (hp : p < L) (hdv : m.ds ≠ 0 → m.dv < G.length) (hgv : m.gs ≠ 0 → m.gv < G.length) : zAM l zmX6_isOpen 2 55 1 st.length [.ref 30, .ref a, .int (nI p), .ref b] σ (fun v σ' => v = some (.int (zb (hOpn L G st p m))) ∧ zX σ σ') := by
  cases hD : hDn L G st p m with
  | none => exact c_X6_isOpen_none hgr ha hb hlen hL hp hdv hgv hD
  | some r => exact c_X6_isOpen_some hgr ha hb hlen hL hp hdv hgv hD
