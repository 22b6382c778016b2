/-! leads, isBad -/
set_option maxHeartbeats 4000000 in
set_option maxRecDepth 100000 in
theorem c_X4_lookFor_any {l : Launch} {σ0 : zS} (h0 : xSh σ0) {n nf f : Nat} {w : Nat → Bool} (hn : n ≤ 400) (hS : zF σ0 3 8 8 = nI n) (hnf : xFz σ0 = nI nf) (hnf12 : nf ≤ 12) (hf : f < nf) (hw : ∀ s, s < n → w s = !xHold σ0 f (zI σ0 9 s)) {pk : Nat} {fs : Nat → Nat} {E : Nat → List Nat} {pv : Int32} (hgr : xGr σ0 pk n (fs n) fs E) (hT : fs n < 2 ^ 20) (hv1 : ∀ s, s < n → zI σ0 13 s &&& ((1 <<< (pv &&& 31)) - 1) = 0 → E s = []) (hv2 : ∀ s, s < n → E s = [] → zI σ0 13 s = 0) (hTf : zF σ0 3 9 8 = nI (fs n)) (hSf : zF σ0 3 8 8 = nI n) (hq : zF σ0 4 11 21 = nI f → ∃ bad, (∀ t, t < n → zI σ0 24 t = zb (bad t)) ∧ tDone n E w bad) : zAM l zmX4_lookFor 5 122 0 0 [.ref 21, .int (nI f), .ref 8, .ref 17, .int pv] σ0 (fun r σ' => r = none ∧ xTg σ0 σ' ∧ zF σ' 4 11 21 = nI f ∧ (∃ bad, (∀ t, t < n → zI σ' 24 t = zb (bad t)) ∧ tDone n E w bad) ∧ (zF σ0 4 11 21 = nI f → σ' = σ0)) := by
  refine zAM.of (by decide +kernel) (Nat.le_of_ble_eq_true rfl) ?_
  refine zw_iload_n dX4_lookFor_0 rfl ?_
  refine zw_aload_n dX4_lookFor_1 rfl ?_
  refine zw_getI dX4_lookFor_2 zfX4_37 rfl (xk_21 h0) (by decide) ?_
  refine zw_icmpne (tgt := 9) dX4_lookFor_5 (by decide) (fun c5 => ?_) (fun c5 => ?_)
  · refine zw_aload_n dX4_lookFor_9 rfl ?_
    refine zw_iload_n dX4_lookFor_10 rfl ?_
    refine zw_aload_n dX4_lookFor_11 rfl ?_
    refine zw_aload_n dX4_lookFor_12 rfl ?_
    refine zw_callV (y' := zmX4_begin) dX4_lookFor_13 zlX4_41 zmX4_begin_ok (xk_21 h0) (by decide) rfl (c_X4_begin h0 hn hS hnf hnf12 hf hw) rfl rfl (Nat.le_of_ble_eq_true rfl) ⟨Nat.le_of_ble_eq_true rfl, Nat.le_of_ble_eq_true rfl⟩ ⟨Nat.le_of_ble_eq_true rfl, Nat.le_of_ble_eq_true rfl⟩ ?_
    intro v13 s13 q13
    obtain ⟨rfl, g1, g2⟩ := q13
    have h1 := g1.sh h0
    refine zw_iconst (x := 1) dX4_lookFor_16 rfl ?_
    refine zw_iload dX4_lookFor_17 rfl ?_
    refine zw_ishl dX4_lookFor_19 ?_
    refine zw_iconst (x := 1) dX4_lookFor_20 rfl ?_
    refine zw_isub dX4_lookFor_21 ?_
    refine zw_istore dX4_lookFor_22 (by decide) rfl ?_
    refine zw_iconst (x := 0) dX4_lookFor_24 rfl ?_
    refine zw_istore dX4_lookFor_25 (by decide) rfl ?_
    have hgr1 := g1.gr hgr
    have e13 : zI s13 13 = zI σ0 13 := g1.2.2.2.2.2.2.2 13 (by decide)
    refine zw_loc (lc' := [(0, .ref 21), (1, .int (nI f)), (2, .ref 8), (5, .int ((1 <<< (pv &&& 31)) - 1)), (6, .int (nI 0))]) (zsub_cons rfl (zsub_cons rfl (zsub_cons rfl (zsub_cons rfl (zsub_cons rfl zsub_nil))))) ?_
    exact lp_look (l := l) (f := f) (w := w) (ev := (1 <<< (pv &&& 31)) - 1) h1 hgr1 hT (by rw [e13]; exact hv1) (by rw [e13]; exact hv2) ((g1.2.2.2.2.2.2.1 3 9 8 (by decide)).trans hTf) ((g1.2.2.2.2.2.2.1 3 8 8 (by decide)).trans hSf) (fun σ' p1 p2 p3 => ⟨rfl, g1.tr p1, p2, p3, fun q => absurd q.symm c5⟩) n 0 s13 (Nat.zero_add _) ⟨xTf.rf _, [], fun _ => 0, fun _ => 0, fun _ => 0, fun _ => false, 0, g2, tInv_0 (fun _ => rfl) (fun _ => rfl), tEx_0 (fun _ => rfl), fun x ⟨x1, _⟩ => absurd x1 (Nat.not_lt_zero _)⟩
  · refine zw_vret dX4_lookFor_8 rfl ?_
    exact ⟨rfl, xTg.rf _, c5.symm, hq c5.symm, fun _ => rfl⟩
set_option maxHeartbeats 4000000 in
set_option maxRecDepth 100000 in
theorem lp_leads {l : Launch} {σ : zS} (h : xSh σ) {n nf p : Nat} {bad hp : Nat → Bool} (hn : n ≤ 400) (hS : zF σ 3 8 8 = nI n) (hnf : xFz σ = nI nf) (hnf12 : nf ≤ 12) (hpf : p < nf) (hb : ∀ t, t < n → zI σ 24 t = zb (bad t)) (hh : ∀ t, t < n → xHold σ p (zI σ 9 t) = hp t) : ∀ (d m : Nat), m + d = n → (∀ t, t < m → bad t = true → hp t = false) → zAW l zmX5_leads { frames := 6, cells := 0, slots := 0, locals := 148 } 77 [(0, .ref 1), (1, .int (nI p)), (3, .int (nI m))] [] σ 0 0 (fun v σ' => σ' = σ ∧ ((∃ s, s < n ∧ v = some (.int (nI s)) ∧ bad s = true ∧ hp s = true) ∨ (v = some (.int (-1)) ∧ ∀ s, s < n → bad s = true → hp s = false))) := by
  intro d
  induction d with
  | zero =>
    intro m hmd hno
    refine zw_iload_n dX5_leads_77 rfl ?_
    refine zw_aload_n dX5_leads_78 rfl ?_
    refine zw_getR dX5_leads_79 zfX5_19 rfl (xk_1 h) (by decide) (xg_5_1 h) ?_
    refine zw_getI dX5_leads_82 zfX5_211 rfl (xk_8 h) (by decide) ?_
    rw [hS]
    refine zw_icmpge (tgt := 126) dX5_leads_85 (by decide) (fun c85 => ?_) (fun c85 => ?_)
    · refine zw_iconst (x := -1) dX5_leads_126 rfl ?_
      refine zw_iret dX5_leads_127 rfl rfl ?_
      obtain rfl : m = n := by omega
      exact ⟨rfl, Or.inr ⟨rfl, hno⟩⟩
    · exact absurd (nI_le (show n ≤ m by omega) (by omega)) c85
  | succ d ih =>
    intro m hmd hno
    have hbm := hb m (by omega)
    have hhm := hh m (by omega)
    refine zw_iload_n dX5_leads_77 rfl ?_
    refine zw_aload_n dX5_leads_78 rfl ?_
    refine zw_getR dX5_leads_79 zfX5_19 rfl (xk_1 h) (by decide) (xg_5_1 h) ?_
    refine zw_getI dX5_leads_82 zfX5_211 rfl (xk_8 h) (by decide) ?_
    rw [hS]
    refine zw_icmpge (tgt := 126) dX5_leads_85 (by decide) (fun c85 => ?_) (fun c85 => ?_)
    · exact absurd c85 (nI_ge (by omega) (by omega))
    · refine zw_aload_n dX5_leads_88 rfl ?_
      refine zw_getR dX5_leads_89 zfX5_33 rfl (xk_1 h) (by decide) (xg_5_3 h) ?_
      refine zw_iload_n dX5_leads_92 rfl ?_
      refine zw_callV (y' := zmX4_isBadState) dX5_leads_93 zlX5_218 zmX4_isBadState_ok (xk_21 h) (by decide) rfl (c_X4_isBadState h (show m < 400 by omega) hbm) rfl rfl (Nat.le_of_ble_eq_true rfl) ⟨Nat.le_of_ble_eq_true rfl, Nat.le_of_ble_eq_true rfl⟩ ⟨Nat.le_of_ble_eq_true rfl, Nat.le_of_ble_eq_true rfl⟩ ?_
      intro v93 s93 q93
      obtain ⟨rfl, z93⟩ := q93
      rw [z93]
      clear z93
      refine zw_ifeq (tgt := 120) dX5_leads_96 (by decide) (fun c96 => ?_) (fun c96 => ?_)
      · refine zw_iinc dX5_leads_120 rfl (by decide) rfl ?_
        refine zw_goto (tgt := 77) dX5_leads_123 (by decide) ?_
        have hno' : bad m = true → hp m = false := fun q => absurd q (by rw [zb_0.mp c96]; decide)
        refine zw_loc (lc' := [(0, .ref 1), (1, .int (nI p)), (3, .int (nI m + 1))]) (zsub_cons rfl (zsub_cons rfl (zsub_cons rfl zsub_nil))) ?_
        rw [nI_1]
        exact ih (m + 1) (by omega) (fun t ht q => by
          by_cases e : t = m
          · rw [e] at q ⊢
            exact hno' q
          · exact hno t (by omega) q)
      · refine zw_aload_n dX5_leads_99 rfl ?_
        refine zw_getR dX5_leads_100 zfX5_26 rfl (xk_1 h) (by decide) (xg_5_2 h) ?_
        refine zw_iload_n dX5_leads_103 rfl ?_
        refine zw_aload_n dX5_leads_104 rfl ?_
        refine zw_getR dX5_leads_105 zfX5_19 rfl (xk_1 h) (by decide) (xg_5_1 h) ?_
        refine zw_iload_n dX5_leads_108 rfl ?_
        refine zw_callV (y' := zmX3_keyOf) dX5_leads_109 zlX5_157 zmX3_keyOf_ok (xk_8 h) (by decide) rfl (c_X3_keyOf h (show m < 400 by omega)) rfl rfl (Nat.le_of_ble_eq_true rfl) ⟨Nat.le_of_ble_eq_true rfl, Nat.le_of_ble_eq_true rfl⟩ ⟨Nat.le_of_ble_eq_true rfl, Nat.le_of_ble_eq_true rfl⟩ ?_
        intro v109 s109 q109
        obtain ⟨rfl, z109⟩ := q109
        rw [z109]
        clear z109
        refine zw_callV (y' := zmX0_isTrueIn) dX5_leads_112 zlX5_196 zmX0_isTrueIn_ok (xk_17 h) (by decide) rfl (c_X0_isTrueIn h hnf hnf12 hpf _) rfl rfl (Nat.le_of_ble_eq_true rfl) ⟨Nat.le_of_ble_eq_true rfl, Nat.le_of_ble_eq_true rfl⟩ ⟨Nat.le_of_ble_eq_true rfl, Nat.le_of_ble_eq_true rfl⟩ ?_
        intro v112 s112 q112
        obtain ⟨rfl, z112⟩ := q112
        rw [z112]
        clear z112
        rw [hhm]
        refine zw_ifeq (tgt := 120) dX5_leads_115 (by decide) (fun c115 => ?_) (fun c115 => ?_)
        · refine zw_iinc dX5_leads_120 rfl (by decide) rfl ?_
          refine zw_goto (tgt := 77) dX5_leads_123 (by decide) ?_
          have hno' : bad m = true → hp m = false := fun _ => zb_0.mp c115
          refine zw_loc (lc' := [(0, .ref 1), (1, .int (nI p)), (3, .int (nI m + 1))]) (zsub_cons rfl (zsub_cons rfl (zsub_cons rfl zsub_nil))) ?_
          rw [nI_1]
          exact ih (m + 1) (by omega) (fun t ht q => by
            by_cases e : t = m
            · rw [e] at q ⊢
              exact hno' q
            · exact hno t (by omega) q)
        · refine zw_iload_n dX5_leads_118 rfl ?_
          refine zw_iret dX5_leads_119 rfl rfl ?_
          exact ⟨rfl, Or.inl ⟨m, by omega, rfl, zb_1.mp c96, zb_1.mp c115⟩⟩
set_option maxHeartbeats 4000000 in
set_option maxRecDepth 100000 in
theorem c_X5_leads {l : Launch} {σ : zS} (h : xSh σ) {n nf f : Nat} {w : Nat → Bool} (hn : n ≤ 400) (hS : zF σ 3 8 8 = nI n) (hnf : xFz σ = nI nf) (hnf12 : nf ≤ 12) (hf : f < nf) (hw : ∀ s, s < n → w s = !xHold σ f (zI σ 9 s)) {p : Nat} (hpf : p < nf) (hn1 : 0 < n) {pk : Nat} {fs : Nat → Nat} {E : Nat → List Nat} (hgr : xGr σ pk n (fs n) fs E) (hT : fs n < 2 ^ 20) (hv1 : ∀ s, s < n → zI σ 13 s &&& ((1 <<< (zF σ 2 5 2 &&& 31)) - 1) = 0 → E s = []) (hv2 : ∀ s, s < n → E s = [] → zI σ 13 s = 0) (hTf : zF σ 3 9 8 = nI (fs n)) (hSf : zF σ 3 8 8 = nI n) (hq : zF σ 4 11 21 = nI f → ∃ bad, (∀ t, t < n → zI σ 24 t = zb (bad t)) ∧ tDone n E w bad) : zAM l zmX5_leads 6 148 0 0 [.ref 1, .int (nI p), .int (nI f)] σ (fun v σ' => xTg σ σ' ∧ zF σ' 4 11 21 = nI f ∧ (zF σ 4 11 21 = nI f → σ' = σ) ∧ ∃ bad, (∀ t, t < n → zI σ' 24 t = zb (bad t)) ∧ tDone n E w bad ∧ ((∃ s, s < n ∧ v = some (.int (nI s)) ∧ bad s = true ∧ xHold σ p (zI σ 9 s) = true) ∨ (v = some (.int (-1)) ∧ ∀ s, s < n → bad s = true → xHold σ p (zI σ 9 s) = false))) := by
  refine zAM.of (by decide +kernel) (Nat.le_of_ble_eq_true rfl) ?_
  have hff : 0 ≤ nI f ∧ nI f < nI nf := ⟨nI_pos' (by omega), nI_lt hf (by omega)⟩
  have hpp : 0 ≤ nI p ∧ nI p < nI nf := ⟨nI_pos' (by omega), nI_lt hpf (by omega)⟩
  refine zw_aload_n dX5_leads_0 rfl ?_
  refine zw_getR dX5_leads_1 zfX5_26 rfl (xk_1 h) (by decide) (xg_5_2 h) ?_
  refine zw_iload_n dX5_leads_4 rfl ?_
  refine zw_callV (y' := zmX0_hasFact) dX5_leads_5 zlX5_191 zmX0_hasFact_ok (xk_17 h) (by decide) rfl (c_X0_hasFact h _) rfl rfl (Nat.le_of_ble_eq_true rfl) ⟨Nat.le_of_ble_eq_true rfl, Nat.le_of_ble_eq_true rfl⟩ ⟨Nat.le_of_ble_eq_true rfl, Nat.le_of_ble_eq_true rfl⟩ ?_
  intro v5 s5 q5
  obtain ⟨rfl, z5⟩ := q5
  rw [z5]
  clear z5
  rw [hnf, zb_t hpp]
  refine zw_ifeq (tgt := 22) dX5_leads_8 (by decide) (fun c8 => ?_) (fun c8 => ?_)
  · exact absurd c8 (by decide)
  · refine zw_aload_n dX5_leads_11 rfl ?_
    refine zw_getR dX5_leads_12 zfX5_26 rfl (xk_1 h) (by decide) (xg_5_2 h) ?_
    refine zw_iload_n dX5_leads_15 rfl ?_
    refine zw_callV (y' := zmX0_hasFact) dX5_leads_16 zlX5_191 zmX0_hasFact_ok (xk_17 h) (by decide) rfl (c_X0_hasFact h _) rfl rfl (Nat.le_of_ble_eq_true rfl) ⟨Nat.le_of_ble_eq_true rfl, Nat.le_of_ble_eq_true rfl⟩ ⟨Nat.le_of_ble_eq_true rfl, Nat.le_of_ble_eq_true rfl⟩ ?_
    intro v16 s16 q16
    obtain ⟨rfl, z16⟩ := q16
    rw [z16]
    clear z16
    rw [hnf, zb_t hff]
    refine zw_ifne (tgt := 32) dX5_leads_19 (by decide) (fun c19 => ?_) (fun c19 => ?_)
    · refine zw_aload_n dX5_leads_32 rfl ?_
      refine zw_getR dX5_leads_33 zfX5_19 rfl (xk_1 h) (by decide) (xg_5_1 h) ?_
      refine zw_callV (y' := zmX3_isExplored) dX5_leads_36 zlX5_199 zmX3_isExplored_ok (xk_8 h) (by decide) rfl (c_X3_isExplored h) rfl rfl (Nat.le_of_ble_eq_true rfl) ⟨Nat.le_of_ble_eq_true rfl, Nat.le_of_ble_eq_true rfl⟩ ⟨Nat.le_of_ble_eq_true rfl, Nat.le_of_ble_eq_true rfl⟩ ?_
      intro v36 s36 q36
      obtain ⟨rfl, z36⟩ := q36
      rw [z36]
      clear z36
      rw [show xS σ = nI n from hS, zb_t (show 0 < nI n from by rw [← nI_0]; exact nI_lt hn1 (by omega))]
      refine zw_ifne (tgt := 52) dX5_leads_39 (by decide) (fun c39 => ?_) (fun c39 => ?_)
      · refine zw_aload_n dX5_leads_52 rfl ?_
        refine zw_getR dX5_leads_53 zfX5_33 rfl (xk_1 h) (by decide) (xg_5_3 h) ?_
        refine zw_iload_n dX5_leads_56 rfl ?_
        refine zw_aload_n dX5_leads_57 rfl ?_
        refine zw_getR dX5_leads_58 zfX5_19 rfl (xk_1 h) (by decide) (xg_5_1 h) ?_
        refine zw_aload_n dX5_leads_61 rfl ?_
        refine zw_getR dX5_leads_62 zfX5_26 rfl (xk_1 h) (by decide) (xg_5_2 h) ?_
        refine zw_aload_n dX5_leads_65 rfl ?_
        refine zw_getR dX5_leads_66 zfX5_12 rfl (xk_1 h) (by decide) (xg_5_0 h) ?_
        refine zw_getI dX5_leads_69 zfX5_48 rfl (xk_2 h) (by decide) ?_
        refine zw_callV (y' := zmX4_lookFor) dX5_leads_72 zlX5_214 zmX4_lookFor_ok (xk_21 h) (by decide) rfl (c_X4_lookFor_any h hn hS hnf hnf12 hf hw hgr hT hv1 hv2 hTf hSf hq) rfl rfl (Nat.le_of_ble_eq_true rfl) ⟨Nat.le_of_ble_eq_true rfl, Nat.le_of_ble_eq_true rfl⟩ ⟨Nat.le_of_ble_eq_true rfl, Nat.le_of_ble_eq_true rfl⟩ ?_
        intro v72 s72 q72
        obtain ⟨rfl, g1, g2, ⟨bad, g3, g4⟩, g5⟩ := q72
        have h1 := g1.sh h
        refine zw_iconst (x := 0) dX5_leads_75 rfl ?_
        refine zw_istore_n dX5_leads_76 (by decide) rfl ?_
        have e9 : zI s72 9 = zI σ 9 := g1.2.2.2.2.2.2.2 9 (by decide)
        have eh : ∀ k, xHold s72 p k = xHold σ p k := fun k => xHold_cg (g1.2.2.2.2.2.2.2 18 (by decide)) (g1.2.2.2.2.2.2.2 19 (by decide)) (g1.2.2.2.2.2.2.2 20 (by decide)) p k
        refine zw_loc (lc' := [(0, .ref 1), (1, .int (nI p)), (3, .int (nI 0))]) (zsub_cons rfl (zsub_cons rfl (zsub_cons rfl zsub_nil))) ?_
        exact zw_weak (fun v σ' ⟨e, r⟩ => by rw [e]; exact ⟨g1, g2, g5, bad, g3, g4, r⟩) (lp_leads h1 hn ((g1.2.2.2.2.2.2.1 3 8 8 (by decide)).trans hS) ((g1.2.2.2.2.2.2.1 0 3 17 (by decide)).trans hnf) hnf12 hpf g3 (hp := fun s => xHold σ p (zI σ 9 s)) (fun t ht => by rw [eh, e9]) n 0 (Nat.zero_add _) (fun t ht => absurd ht (Nat.not_lt_zero _)))
      · exact absurd c39 (by decide)
    · exact absurd c19 (by decide)
set_option maxHeartbeats 4000000 in
set_option maxRecDepth 100000 in
theorem c_X5_isBad {l : Launch} {σ : zS} (h : xSh σ) {n nf f : Nat} {w : Nat → Bool} (hn : n ≤ 400) (hS : zF σ 3 8 8 = nI n) (hnf : xFz σ = nI nf) (hnf12 : nf ≤ 12) (hf : f < nf) (hw : ∀ s, s < n → w s = !xHold σ f (zI σ 9 s)) {s : Nat} (hs : s < n) {pk : Nat} {fs : Nat → Nat} {E : Nat → List Nat} (hgr : xGr σ pk n (fs n) fs E) (hT : fs n < 2 ^ 20) (hv1 : ∀ s, s < n → zI σ 13 s &&& ((1 <<< (zF σ 2 5 2 &&& 31)) - 1) = 0 → E s = []) (hv2 : ∀ s, s < n → E s = [] → zI σ 13 s = 0) (hTf : zF σ 3 9 8 = nI (fs n)) (hSf : zF σ 3 8 8 = nI n) (hq : zF σ 4 11 21 = nI f → ∃ bad, (∀ t, t < n → zI σ 24 t = zb (bad t)) ∧ tDone n E w bad) : zAM l zmX5_isBad 6 148 0 0 [.ref 1, .int (nI f), .int (nI s)] σ (fun v σ' => xTg σ σ' ∧ zF σ' 4 11 21 = nI f ∧ (zF σ 4 11 21 = nI f → σ' = σ) ∧ ∃ bad, (∀ t, t < n → zI σ' 24 t = zb (bad t)) ∧ tDone n E w bad ∧ v = some (.int (zb (bad s)))) := by
  refine zAM.of (by decide +kernel) (Nat.le_of_ble_eq_true rfl) ?_
  have hff : 0 ≤ nI f ∧ nI f < nI nf := ⟨nI_pos' (by omega), nI_lt hf (by omega)⟩
  have hss : 0 ≤ nI s ∧ nI s < nI n := ⟨nI_pos' (by omega), nI_lt hs (by omega)⟩
  refine zw_aload_n dX5_isBad_0 rfl ?_
  refine zw_getR dX5_isBad_1 zfX5_26 rfl (xk_1 h) (by decide) (xg_5_2 h) ?_
  refine zw_iload_n dX5_isBad_4 rfl ?_
  refine zw_callV (y' := zmX0_hasFact) dX5_isBad_5 zlX5_191 zmX0_hasFact_ok (xk_17 h) (by decide) rfl (c_X0_hasFact h _) rfl rfl (Nat.le_of_ble_eq_true rfl) ⟨Nat.le_of_ble_eq_true rfl, Nat.le_of_ble_eq_true rfl⟩ ⟨Nat.le_of_ble_eq_true rfl, Nat.le_of_ble_eq_true rfl⟩ ?_
  intro v5 s5 q5
  obtain ⟨rfl, z5⟩ := q5
  rw [z5]
  clear z5
  rw [hnf, zb_t hff]
  refine zw_ifne (tgt := 21) dX5_isBad_8 (by decide) (fun c8 => ?_) (fun c8 => ?_)
  · refine zw_aload_n dX5_isBad_21 rfl ?_
    refine zw_getR dX5_isBad_22 zfX5_19 rfl (xk_1 h) (by decide) (xg_5_1 h) ?_
    refine zw_iload_n dX5_isBad_25 rfl ?_
    refine zw_callV (y' := zmX3_hasState) dX5_isBad_26 zlX5_146 zmX3_hasState_ok (xk_8 h) (by decide) rfl (c_X3_hasState h _) rfl rfl (Nat.le_of_ble_eq_true rfl) ⟨Nat.le_of_ble_eq_true rfl, Nat.le_of_ble_eq_true rfl⟩ ⟨Nat.le_of_ble_eq_true rfl, Nat.le_of_ble_eq_true rfl⟩ ?_
    intro v26 s26 q26
    obtain ⟨rfl, z26⟩ := q26
    rw [z26]
    clear z26
    rw [show xS σ = nI n from hS, zb_t hss]
    refine zw_ifne (tgt := 42) dX5_isBad_29 (by decide) (fun c29 => ?_) (fun c29 => ?_)
    · refine zw_aload_n dX5_isBad_42 rfl ?_
      refine zw_getR dX5_isBad_43 zfX5_33 rfl (xk_1 h) (by decide) (xg_5_3 h) ?_
      refine zw_iload_n dX5_isBad_46 rfl ?_
      refine zw_aload_n dX5_isBad_47 rfl ?_
      refine zw_getR dX5_isBad_48 zfX5_19 rfl (xk_1 h) (by decide) (xg_5_1 h) ?_
      refine zw_aload_n dX5_isBad_51 rfl ?_
      refine zw_getR dX5_isBad_52 zfX5_26 rfl (xk_1 h) (by decide) (xg_5_2 h) ?_
      refine zw_aload_n dX5_isBad_55 rfl ?_
      refine zw_getR dX5_isBad_56 zfX5_12 rfl (xk_1 h) (by decide) (xg_5_0 h) ?_
      refine zw_getI dX5_isBad_59 zfX5_48 rfl (xk_2 h) (by decide) ?_
      refine zw_callV (y' := zmX4_lookFor) dX5_isBad_62 zlX5_214 zmX4_lookFor_ok (xk_21 h) (by decide) rfl (c_X4_lookFor_any h hn hS hnf hnf12 hf hw hgr hT hv1 hv2 hTf hSf hq) rfl rfl (Nat.le_of_ble_eq_true rfl) ⟨Nat.le_of_ble_eq_true rfl, Nat.le_of_ble_eq_true rfl⟩ ⟨Nat.le_of_ble_eq_true rfl, Nat.le_of_ble_eq_true rfl⟩ ?_
      intro v62 s62 q62
      obtain ⟨rfl, g1, g2, ⟨bad, g3, g4⟩, g5⟩ := q62
      have h1 := g1.sh h
      refine zw_aload_n dX5_isBad_65 rfl ?_
      refine zw_getR dX5_isBad_66 zfX5_33 rfl (xk_1 h1) (by decide) (xg_5_3 h1) ?_
      refine zw_iload_n dX5_isBad_69 rfl ?_
      refine zw_callV (y' := zmX4_isBadState) dX5_isBad_70 zlX5_218 zmX4_isBadState_ok (xk_21 h1) (by decide) rfl (c_X4_isBadState h1 (show s < 400 by omega) (g3 s hs)) rfl rfl (Nat.le_of_ble_eq_true rfl) ⟨Nat.le_of_ble_eq_true rfl, Nat.le_of_ble_eq_true rfl⟩ ⟨Nat.le_of_ble_eq_true rfl, Nat.le_of_ble_eq_true rfl⟩ ?_
      intro v70 s70 q70
      obtain ⟨rfl, z70⟩ := q70
      rw [z70]
      clear z70
      refine zw_iret dX5_isBad_73 rfl (znz _) ?_
      exact ⟨g1, g2, g5, bad, g3, g4, rfl⟩
    · exact absurd c29 (by decide)
  · exact absurd c8 (by decide)
