/-! Traps.begin, lookFor -/
theorem xTr_cg {σ σ' : zS} (h1 : zI σ' 18 = zI σ 18) (h2 : zI σ' 19 = zI σ 19) (h3 : zI σ' 20 = zI σ 20) (f : Nat) (k kn : Int32) : xTr σ' f k kn = xTr σ f k kn := by
  unfold xTr
  rw [h1, h2, h3]
theorem xKn_cg {σ σ' : zS} (h1 : zI σ' 18 = zI σ 18) (h2 : zI σ' 19 = zI σ 19) (h3 : zI σ' 20 = zI σ 20) (k : Int32) : ∀ (d f : Nat) (kn : Int32), xKn σ' k d f kn = xKn σ k d f kn
  | 0, _, _ => rfl
  | d + 1, f, kn => by rw [xKn, xKn, xTr_cg h1 h2 h3, xKn_cg h1 h2 h3 k d (f + 1)]
theorem xHold_cg {σ σ' : zS} (h1 : zI σ' 18 = zI σ 18) (h2 : zI σ' 19 = zI σ 19) (h3 : zI σ' 20 = zI σ 20) (f : Nat) (k : Int32) : xHold σ' f k = xHold σ f k := by
  unfold xHold
  rw [xKn_cg h1 h2 h3]
/-- what a look for traps leaves alone -/
def xTg (σ0 σ : zS) : Prop := zn σ = zn σ0 ∧ zK σ = zK σ0 ∧ zL σ = zL σ0 ∧ zG σ = zG σ0 ∧ zR σ = zR σ0 ∧ zJ σ = zJ σ0 ∧ (∀ c k a, c ≠ 4 → zF σ c k a = zF σ0 c k a) ∧ ∀ a, ¬ (22 ≤ a ∧ a ≤ 29) → zI σ a = zI σ0 a
theorem xTg.rf (σ : zS) : xTg σ σ := ⟨rfl, rfl, rfl, rfl, rfl, rfl, fun _ _ _ _ => rfl, fun _ _ => rfl⟩
theorem xTg.tr {σ0 σ σ' : zS} (h : xTg σ0 σ) (h' : xTg σ σ') : xTg σ0 σ' := by
  obtain ⟨a1, a2, a3, a4, a5, a6, a7, a8⟩ := h
  obtain ⟨b1, b2, b3, b4, b5, b6, b7, b8⟩ := h'
  exact ⟨b1.trans a1, b2.trans a2, b3.trans a3, b4.trans a4, b5.trans a5, b6.trans a6, fun c k a q => (b7 c k a q).trans (a7 c k a q), fun a q => (b8 a q).trans (a8 a q)⟩
theorem xTf.tg {σ0 σ : zS} (h : xTf σ0 σ) : xTg σ0 σ := by
  obtain ⟨a1, a2, a3, a4, a5, a6, a7, a8, -⟩ := h
  exact ⟨a1, a2, a3, a4, a5, a6, a7, a8⟩
theorem xTg.I {σ0 σ : zS} {a i : Nat} {x : Int32} (h : xTg σ0 σ) (h1 : 22 ≤ a) (h2 : a ≤ 29) : xTg σ0 (zsI σ a i x) := by
  refine h.tr ⟨rfl, rfl, rfl, rfl, rfl, rfl, fun _ _ _ _ => rfl, fun b hb => funext fun j => ?_⟩
  rw [zI_zsI, if_neg (fun q => hb (by rw [q.1]; exact ⟨h1, h2⟩))]
theorem xTg.F {σ0 σ : zS} {k a : Nat} {x : Int32} (h : xTg σ0 σ) : xTg σ0 (zsF σ 4 k a x) := by
  refine h.tr ⟨rfl, rfl, rfl, rfl, rfl, rfl, fun c k' a' hc => ?_, fun _ _ => rfl⟩
  rw [zF_zsF, if_neg (fun q => hc q.1)]
theorem xTg.sh {σ0 σ : zS} (h : xTg σ0 σ) (hs : xSh σ0) : xSh σ := by
  refine ⟨fun q hq => ?_, fun q hq => ?_, fun q hq => ?_⟩
  · rw [h.2.1]; exact hs.1 q hq
  · rw [h.2.2.1]; exact hs.2.1 q hq
  · rw [h.2.2.2.1]; exact hs.2.2 q hq
theorem xTg.gr {σ0 σ : zS} (h : xTg σ0 σ) {pk n T : Nat} {fs : Nat → Nat} {E : Nat → List Nat} (hg : xGr σ0 pk n T fs E) : xGr σ pk n T fs E := by
  obtain ⟨a1, a2, a3, a4, a5, a6, a7, a8⟩ := h
  obtain ⟨g1, g2, g3, g4, g5, g6, g7, g8⟩ := hg
  have hpk : ¬ (22 ≤ pk ∧ pk ≤ 29) := by rcases g1.2.2 with e | e <;> omega
  refine ⟨⟨by rw [a4]; exact g1.1, by rw [a2]; exact g1.2.1, g1.2.2⟩, g2, by rw [a3]; exact g3, by rw [a3]; exact g4, fun s hs => by rw [a8 14 (by decide)]; exact g5 s hs, g6, g7, fun s hs j t hj => ?_⟩
  rw [a8 pk hpk]
  exact g8 s hs j t hj
def xBe (σ0 σ : zS) (w : Nat → Bool) (m : Nat) : Prop := xTg σ0 σ ∧ ∀ t, t < m → zI σ 22 t = zb (w t) ∧ zI σ 23 t = 0 ∧ zI σ 24 t = 0 ∧ zI σ 25 t = 0
theorem xBe_step {σ0 σ : zS} {w : Nat → Bool} {m : Nat} (h : xBe σ0 σ w m) {x : Int32} (hx : x = zb (w m)) : xBe σ0 (zsI (zsI (zsI (zsI σ 22 m x) 23 m 0) 24 m 0) 25 m 0) w (m + 1) := by
  refine ⟨(((h.1.I (by decide) (by decide)).I (by decide) (by decide)).I (by decide) (by decide)).I (by decide) (by decide), fun t ht => ?_⟩
  have o : ∀ {σ : zS} {a i j b : Nat} {y : Int32}, a ≠ b → zI (zsI σ a i y) b j = zI σ b j := fun {σ a i j b y} q => by rw [zI_zsI, if_neg (fun z => q z.1.symm)]
  by_cases e : t = m
  · rw [e]
    refine ⟨?_, ?_, ?_, ?_⟩
    · rw [o (by decide), o (by decide), o (by decide), zI_zsI, if_pos ⟨rfl, rfl⟩]; exact hx
    · rw [o (by decide), o (by decide), zI_zsI, if_pos ⟨rfl, rfl⟩]
    · rw [o (by decide), zI_zsI, if_pos ⟨rfl, rfl⟩]
    · rw [zI_zsI, if_pos ⟨rfl, rfl⟩]
  · obtain ⟨b1, b2, b3, b4⟩ := h.2 t (by omega)
    refine ⟨?_, ?_, ?_, ?_⟩
    · rw [o (by decide), o (by decide), o (by decide), zI_zsI, if_neg (fun z => e z.2)]; exact b1
    · rw [o (by decide), o (by decide), zI_zsI, if_neg (fun z => e z.2), o (by decide)]; exact b2
    · rw [o (by decide), zI_zsI, if_neg (fun z => e z.2), o (by decide), o (by decide)]; exact b3
    · rw [zI_zsI, if_neg (fun z => e z.2), o (by decide), o (by decide), o (by decide)]; exact b4
theorem xBe_end {σ0 σ : zS} {w : Nat → Bool} {n : Nat} (h : xBe σ0 σ w n) : xTg σ0 (zsF (zsF (zsF (zsF σ 4 8 21 0) 4 9 21 0) 4 10 21 0) 4 12 21 0) ∧ xTs (zsF (zsF (zsF (zsF σ 4 8 21 0) 4 9 21 0) 4 10 21 0) 4 12 21 0) n w (fun _ => false) [] [] (fun _ => 0) (fun _ => 0) (fun _ => 0) 0 := by
  refine ⟨h.1.F.F.F.F, ⟨?_, ?_, ?_⟩, fun t ht => ?_, fun t ht => ?_, fun t ht q => absurd rfl q, fun R x hx => ?_, fun R x hx => ?_⟩
  · rw [zF_zsF, if_neg (by decide), zF_zsF, if_neg (by decide), zF_zsF, if_neg (by decide), zF_zsF, if_pos ⟨rfl, rfl, rfl⟩]; exact nI_0.symm
  · rw [zF_zsF, if_neg (by decide), zF_zsF, if_neg (by decide), zF_zsF, if_pos ⟨rfl, rfl, rfl⟩]; exact nI_0.symm
  · rw [zF_zsF, if_neg (by decide), zF_zsF, if_pos ⟨rfl, rfl, rfl⟩]; exact nI_0.symm
  · obtain ⟨b1, b2, b3, b4⟩ := h.2 t ht
    exact ⟨b1, b2, b3⟩
  · exact (h.2 t ht).2.2.2.trans nI_0.symm
  · exact absurd hx.length_le (by simp)
  · exact absurd hx.length_le (by simp)
/-- the traps looked for: what is told of the states -/
def tDone (n : Nat) (E : Nat → List Nat) (w bad : Nat → Bool) : Prop :=
  (∀ s, bad s = true → w s = true ∧ s < n ∧ tWit E w s) ∧ (∀ s, s < n → w s = true → (E s = [] → bad s = true) ∧ ∀ t, t ∈ E s → w t = true → bad t = true → bad s = true)
theorem xWs_done {σ0 σ : zS} {n : Nat} {E : Nat → List Nat} {w : Nat → Bool} {M : Nat → Prop} (h : xWs σ0 σ n E w M [] 0) (hM : ∀ s, s < n → w s = true → M s) : ∃ bad, (∀ t, t < n → zI σ 24 t = zb (bad t)) ∧ tDone n E w bad := by
  obtain ⟨hf, wait, ord, low, nx, bad, en, hs, hI, hX, hO⟩ := h
  have hw := tInv_end hI
  subst hw
  refine ⟨bad, fun t ht => (hs.2.1 t ht).2.2, fun s hb => ?_, fun s hs1 hw => ?_⟩
  · obtain ⟨c1, c2, c3⟩ := hI.2.2.2.2.2.2.2.2.2.2.2 s hb
    obtain ⟨d1, d2, d3⟩ := hI.2.1 s c1
    exact ⟨d2, d1, c3⟩
  · obtain ⟨c1, c2, c3⟩ := hI.2.2.2.2.2.2.2.2.2.2.1 s (hO s (hM s hs1 hw)) List.not_mem_nil
    exact ⟨c2, c3⟩
set_option maxHeartbeats 4000000 in
set_option maxRecDepth 100000 in
theorem lp_begin {l : Launch} {σ0 : zS} (h0 : xSh σ0) {n nf f : Nat} {w : Nat → Bool} (hn : n ≤ 400) (hS : zF σ0 3 8 8 = nI n) (hnf : xFz σ0 = nI nf) (hnf12 : nf ≤ 12) (hf : f < nf) (hw : ∀ s, s < n → w s = !xHold σ0 f (zI σ0 9 s)) : ∀ (d m : Nat) (σ : zS), m + d = n → xBe σ0 σ w m → zAW l zmX4_begin { frames := 3, cells := 0, slots := 0, locals := 70 } 3 [(0, .ref 21), (1, .int (nI f)), (2, .ref 8), (3, .ref 17), (4, .int (nI m))] [] σ 0 0 (fun r σ' => r = none ∧ xTg σ0 σ' ∧ xTs σ' n w (fun _ => false) [] [] (fun _ => 0) (fun _ => 0) (fun _ => 0) 0) := by
  intro d
  induction d with
  | zero =>
    intro m σ hmd hB
    have h := hB.1.sh h0
    have hSs : zF σ 3 8 8 = nI n := (hB.1.2.2.2.2.2.2.1 3 8 8 (by decide)).trans hS
    refine zw_iload dX4_begin_3 rfl ?_
    refine zw_aload_n dX4_begin_5 rfl ?_
    refine zw_getI dX4_begin_6 zfX4_45 rfl (xk_8 h) (by decide) ?_
    rw [hSs]
    refine zw_icmpge (tgt := 68) dX4_begin_9 (by decide) (fun c9 => ?_) (fun c9 => ?_)
    · refine zw_aload_n dX4_begin_68 rfl ?_
      refine zw_iconst (x := 0) dX4_begin_69 rfl ?_
      refine zw_putI dX4_begin_70 zfX4_64 rfl rfl ⟨rfl, rfl⟩ (xk_21 h) (by decide) ?_
      refine zw_aload_n dX4_begin_73 rfl ?_
      refine zw_iconst (x := 0) dX4_begin_74 rfl ?_
      refine zw_putI dX4_begin_75 zfX4_67 rfl rfl ⟨rfl, rfl⟩ (xk_21 h) (by decide) ?_
      refine zw_aload_n dX4_begin_78 rfl ?_
      refine zw_iconst (x := 0) dX4_begin_79 rfl ?_
      refine zw_putI dX4_begin_80 zfX4_70 rfl rfl ⟨rfl, rfl⟩ (xk_21 h) (by decide) ?_
      refine zw_aload_n dX4_begin_83 rfl ?_
      refine zw_iconst (x := 0) dX4_begin_84 rfl ?_
      refine zw_putI dX4_begin_85 zfX4_73 rfl rfl ⟨rfl, rfl⟩ (xk_21 h) (by decide) ?_
      refine zw_vret dX4_begin_88 rfl ?_
      obtain rfl : m = n := by omega
      exact ⟨rfl, xBe_end hB⟩
    · exact absurd (nI_le (show n ≤ m by omega) (by omega)) c9
  | succ d ih =>
    intro m σ hmd hB
    have h := hB.1.sh h0
    have hSs : zF σ 3 8 8 = nI n := (hB.1.2.2.2.2.2.2.1 3 8 8 (by decide)).trans hS
    have hFs : xFz σ = nI nf := (hB.1.2.2.2.2.2.2.1 0 3 17 (by decide)).trans hnf
    have hHs : xHold σ f (zI σ 9 m) = xHold σ0 f (zI σ0 9 m) := by rw [xHold_cg (hB.1.2.2.2.2.2.2.2 18 (by decide)) (hB.1.2.2.2.2.2.2.2 19 (by decide)) (hB.1.2.2.2.2.2.2.2 20 (by decide)), hB.1.2.2.2.2.2.2.2 9 (by decide)]
    have hwm := hw m (by omega)
    refine zw_iload dX4_begin_3 rfl ?_
    refine zw_aload_n dX4_begin_5 rfl ?_
    refine zw_getI dX4_begin_6 zfX4_45 rfl (xk_8 h) (by decide) ?_
    rw [hSs]
    refine zw_icmpge (tgt := 68) dX4_begin_9 (by decide) (fun c9 => ?_) (fun c9 => ?_)
    · exact absurd c9 (nI_ge (by omega) (by omega))
    · refine zw_aload_n dX4_begin_12 rfl ?_
      refine zw_getR dX4_begin_13 zfX4_9 rfl (xk_21 h) (by decide) (xg_4_0 h) ?_
      refine zw_iload dX4_begin_16 rfl ?_
      refine zw_aload_n dX4_begin_18 rfl ?_
      refine zw_iload_n dX4_begin_19 rfl ?_
      refine zw_aload_n dX4_begin_20 rfl ?_
      refine zw_iload dX4_begin_21 rfl ?_
      refine zw_callV (y' := zmX3_keyOf) dX4_begin_23 zlX4_54 zmX3_keyOf_ok (xk_8 h) (by decide) rfl (c_X3_keyOf h (show m < 400 by omega)) rfl rfl (Nat.le_of_ble_eq_true rfl) ⟨Nat.le_of_ble_eq_true rfl, Nat.le_of_ble_eq_true rfl⟩ ⟨Nat.le_of_ble_eq_true rfl, Nat.le_of_ble_eq_true rfl⟩ ?_
      intro v23 s23 q23
      obtain ⟨rfl, z23⟩ := q23
      rw [z23]
      clear z23
      refine zw_callV (y' := zmX0_isTrueIn) dX4_begin_26 zlX4_58 zmX0_isTrueIn_ok (xk_17 h) (by decide) rfl (c_X0_isTrueIn h hFs hnf12 hf _) rfl rfl (Nat.le_of_ble_eq_true rfl) ⟨Nat.le_of_ble_eq_true rfl, Nat.le_of_ble_eq_true rfl⟩ ⟨Nat.le_of_ble_eq_true rfl, Nat.le_of_ble_eq_true rfl⟩ ?_
      intro v26 s26 q26
      obtain ⟨rfl, z26⟩ := q26
      rw [z26]
      clear z26
      refine zw_ifne (tgt := 36) dX4_begin_29 (by decide) (fun c29 => ?_) (fun c29 => ?_)
      · refine zw_iconst (x := 0) dX4_begin_36 rfl ?_
        refine zw_bastore dX4_begin_37 (xk_22 h) rfl (zin_of (xl_22 h) (vp_in_nI (by omega) (by omega))) ?_
        rw [nI_clamp (show m < 2 ^ 31 by omega)]
        refine zw_aload_n dX4_begin_38 rfl ?_
        refine zw_getR dX4_begin_39 zfX4_15 rfl (xk_21 h) (by decide) (xg_4_1 h) ?_
        refine zw_iload dX4_begin_42 rfl ?_
        refine zw_iconst (x := 0) dX4_begin_44 rfl ?_
        refine zw_bastore dX4_begin_45 (xk_23 h) rfl (zin_of (xl_23 h) (vp_in_nI (by omega) (by omega))) ?_
        rw [nI_clamp (show m < 2 ^ 31 by omega)]
        refine zw_aload_n dX4_begin_46 rfl ?_
        refine zw_getR dX4_begin_47 zfX4_18 rfl (xk_21 h) (by decide) (xg_4_2 h) ?_
        refine zw_iload dX4_begin_50 rfl ?_
        refine zw_iconst (x := 0) dX4_begin_52 rfl ?_
        refine zw_bastore dX4_begin_53 (xk_24 h) rfl (zin_of (xl_24 h) (vp_in_nI (by omega) (by omega))) ?_
        rw [nI_clamp (show m < 2 ^ 31 by omega)]
        refine zw_aload_n dX4_begin_54 rfl ?_
        refine zw_getR dX4_begin_55 zfX4_21 rfl (xk_21 h) (by decide) (xg_4_3 h) ?_
        refine zw_iload dX4_begin_58 rfl ?_
        refine zw_iconst (x := 0) dX4_begin_60 rfl ?_
        refine zw_iastore dX4_begin_61 (xk_25 h) (by decide) (zin_of (xl_25 h) (vp_in_nI (by omega) (by omega))) ?_
        rw [nI_clamp (show m < 2 ^ 31 by omega)]
        refine zw_iinc dX4_begin_62 rfl (by decide) rfl ?_
        refine zw_goto (tgt := 3) dX4_begin_65 (by decide) ?_
        rw [hHs] at c29
        replace c29 := zb_1.mp c29
        rw [c29] at hwm
        refine zw_loc (lc' := [(0, .ref 21), (1, .int (nI f)), (2, .ref 8), (3, .ref 17), (4, .int (nI m + 1))]) (zsub_cons rfl (zsub_cons rfl (zsub_cons rfl (zsub_cons rfl (zsub_cons rfl zsub_nil))))) ?_
        rw [nI_1]
        exact ih (m + 1) _ (by omega) (xBe_step hB (x := 0) (by rw [hwm]; rfl))
      · refine zw_iconst (x := 1) dX4_begin_32 rfl ?_
        refine zw_goto (tgt := 37) dX4_begin_33 (by decide) ?_
        refine zw_bastore dX4_begin_37 (xk_22 h) rfl (zin_of (xl_22 h) (vp_in_nI (by omega) (by omega))) ?_
        rw [nI_clamp (show m < 2 ^ 31 by omega)]
        refine zw_aload_n dX4_begin_38 rfl ?_
        refine zw_getR dX4_begin_39 zfX4_15 rfl (xk_21 h) (by decide) (xg_4_1 h) ?_
        refine zw_iload dX4_begin_42 rfl ?_
        refine zw_iconst (x := 0) dX4_begin_44 rfl ?_
        refine zw_bastore dX4_begin_45 (xk_23 h) rfl (zin_of (xl_23 h) (vp_in_nI (by omega) (by omega))) ?_
        rw [nI_clamp (show m < 2 ^ 31 by omega)]
        refine zw_aload_n dX4_begin_46 rfl ?_
        refine zw_getR dX4_begin_47 zfX4_18 rfl (xk_21 h) (by decide) (xg_4_2 h) ?_
        refine zw_iload dX4_begin_50 rfl ?_
        refine zw_iconst (x := 0) dX4_begin_52 rfl ?_
        refine zw_bastore dX4_begin_53 (xk_24 h) rfl (zin_of (xl_24 h) (vp_in_nI (by omega) (by omega))) ?_
        rw [nI_clamp (show m < 2 ^ 31 by omega)]
        refine zw_aload_n dX4_begin_54 rfl ?_
        refine zw_getR dX4_begin_55 zfX4_21 rfl (xk_21 h) (by decide) (xg_4_3 h) ?_
        refine zw_iload dX4_begin_58 rfl ?_
        refine zw_iconst (x := 0) dX4_begin_60 rfl ?_
        refine zw_iastore dX4_begin_61 (xk_25 h) (by decide) (zin_of (xl_25 h) (vp_in_nI (by omega) (by omega))) ?_
        rw [nI_clamp (show m < 2 ^ 31 by omega)]
        refine zw_iinc dX4_begin_62 rfl (by decide) rfl ?_
        refine zw_goto (tgt := 3) dX4_begin_65 (by decide) ?_
        rw [hHs] at c29
        replace c29 := zb_0.mp c29
        rw [c29] at hwm
        refine zw_loc (lc' := [(0, .ref 21), (1, .int (nI f)), (2, .ref 8), (3, .ref 17), (4, .int (nI m + 1))]) (zsub_cons rfl (zsub_cons rfl (zsub_cons rfl (zsub_cons rfl (zsub_cons rfl zsub_nil))))) ?_
        rw [nI_1]
        exact ih (m + 1) _ (by omega) (xBe_step hB (x := 1) (by rw [hwm]; rfl))
set_option maxHeartbeats 4000000 in
set_option maxRecDepth 100000 in
theorem c_X4_begin {l : Launch} {σ0 : zS} (h0 : xSh σ0) {n nf f : Nat} {w : Nat → Bool} (hn : n ≤ 400) (hS : zF σ0 3 8 8 = nI n) (hnf : xFz σ0 = nI nf) (hnf12 : nf ≤ 12) (hf : f < nf) (hw : ∀ s, s < n → w s = !xHold σ0 f (zI σ0 9 s)) : zAM l zmX4_begin 3 70 0 0 [.ref 21, .int (nI f), .ref 8, .ref 17] σ0 (fun r σ' => r = none ∧ xTg σ0 σ' ∧ xTs σ' n w (fun _ => false) [] [] (fun _ => 0) (fun _ => 0) (fun _ => 0) 0) := by
  refine zAM.of (by decide +kernel) (Nat.le_of_ble_eq_true rfl) ?_
  refine zw_iconst (x := 0) dX4_begin_0 rfl ?_
  refine zw_istore dX4_begin_1 (by decide) rfl ?_
  refine zw_loc (lc' := [(0, .ref 21), (1, .int (nI f)), (2, .ref 8), (3, .ref 17), (4, .int (nI 0))]) (zsub_cons rfl (zsub_cons rfl (zsub_cons rfl (zsub_cons rfl (zsub_cons rfl zsub_nil))))) (lp_begin h0 hn hS hnf hnf12 hf hw n 0 σ0 (Nat.zero_add _) ⟨xTg.rf _, fun t ht => absurd ht (Nat.not_lt_zero _)⟩)
set_option maxHeartbeats 4000000 in
set_option maxRecDepth 100000 in
theorem lp_look {l : Launch} {σ0 : zS} (h0 : xSh σ0) {n f : Nat} {w : Nat → Bool} {pk : Nat} {fs : Nat → Nat} {E : Nat → List Nat} {ev : Int32} (hgr : xGr σ0 pk n (fs n) fs E) (hT : fs n < 2 ^ 20) (hv1 : ∀ s, s < n → zI σ0 13 s &&& ev = 0 → E s = []) (hv2 : ∀ s, s < n → E s = [] → zI σ0 13 s = 0) (hTf : zF σ0 3 9 8 = nI (fs n)) (hSf : zF σ0 3 8 8 = nI n) {Q : Option Value → zS → Prop} (hQ : ∀ σ', xTg σ0 σ' → zF σ' 4 11 21 = nI f → (∃ bad, (∀ t, t < n → zI σ' 24 t = zb (bad t)) ∧ tDone n E w bad) → Q none σ') : ∀ (d m : Nat) (σ : zS), m + d = n → xWs σ0 σ n E w (fun x => x < m ∧ w x = true) [] 0 → zAW l zmX4_lookFor { frames := 5, cells := 0, slots := 0, locals := 122 } 27 [(0, .ref 21), (1, .int (nI f)), (2, .ref 8), (5, .int (ev)), (6, .int (nI m))] [] σ 0 0 Q := by
  have hn := hgr.2.1
  intro d
  induction d with
  | zero =>
    intro m σ hmd hW
    have h := hW.1.sh h0
    have hSs : zF σ 3 8 8 = nI n := (hW.1.2.2.2.2.2.2.1 3 8 8 (by decide)).trans hSf
    refine zw_iload dX4_lookFor_27 rfl ?_
    refine zw_aload_n dX4_lookFor_29 rfl ?_
    refine zw_getI dX4_lookFor_30 zfX4_45 rfl (xk_8 h) (by decide) ?_
    rw [hSs]
    refine zw_icmpge (tgt := 71) dX4_lookFor_33 (by decide) (fun c33 => ?_) (fun c33 => ?_)
    · refine zw_aload_n dX4_lookFor_71 rfl ?_
      refine zw_iload_n dX4_lookFor_72 rfl ?_
      refine zw_putI dX4_lookFor_73 zfX4_37 rfl rfl ⟨rfl, rfl⟩ (xk_21 h) (by decide) ?_
      refine zw_vret dX4_lookFor_76 rfl ?_
      obtain rfl : m = n := by omega
      obtain ⟨bad, b1, b2⟩ := xWs_done hW (fun s q1 q2 => ⟨q1, q2⟩)
      exact hQ _ hW.1.tg.F (by rw [zF_zsF, if_pos ⟨rfl, rfl, rfl⟩]) ⟨bad, b1, b2⟩
    · exact absurd (nI_le (show n ≤ m by omega) (by omega)) c33
  | succ d ih =>
    intro m σ hmd hW
    have h := hW.1.sh h0
    have hSs : zF σ 3 8 8 = nI n := (hW.1.2.2.2.2.2.2.1 3 8 8 (by decide)).trans hSf
    obtain ⟨hf, wait, ord, low, nx, bad, en, hs, hI, hX, hM⟩ := id hW
    have hwt := tInv_end hI
    subst hwt
    have hm22 := (hs.2.1 m (by omega)).1
    have hm25 := hs.2.2.1 m (by omega)
    have hen := tEx_en hX
    have hom : ord m < 2 ^ 31 := by
      by_cases q : ord m = 0
      · omega
      · have := (hI.2.1 m q).2.2
        omega
    refine zw_iload dX4_lookFor_27 rfl ?_
    refine zw_aload_n dX4_lookFor_29 rfl ?_
    refine zw_getI dX4_lookFor_30 zfX4_45 rfl (xk_8 h) (by decide) ?_
    rw [hSs]
    refine zw_icmpge (tgt := 71) dX4_lookFor_33 (by decide) (fun c33 => ?_) (fun c33 => ?_)
    · exact absurd c33 (nI_ge (by omega) (by omega))
    · refine zw_aload_n dX4_lookFor_36 rfl ?_
      refine zw_getR dX4_lookFor_37 zfX4_9 rfl (xk_21 h) (by decide) (xg_4_0 h) ?_
      refine zw_iload dX4_lookFor_40 rfl ?_
      refine zw_baload dX4_lookFor_42 (xk_22 h) (zin_of (xl_22 h) (vp_in_nI (by omega) (by omega))) ?_
      rw [nI_clamp (show m < 2 ^ 31 by omega), hm22]
      refine zw_ifeq (tgt := 65) dX4_lookFor_43 (by decide) (fun c43 => ?_) (fun c43 => ?_)
      · refine zw_iinc dX4_lookFor_65 rfl (by decide) rfl ?_
        refine zw_goto (tgt := 27) dX4_lookFor_68 (by decide) ?_
        replace c43 := zb_0.mp c43
        refine zw_loc (lc' := [(0, .ref 21), (1, .int (nI f)), (2, .ref 8), (5, .int (ev)), (6, .int (nI m + 1))]) (zsub_cons rfl (zsub_cons rfl (zsub_cons rfl (zsub_cons rfl (zsub_cons rfl zsub_nil))))) ?_
        rw [nI_1]
        exact ih (m + 1) _ (by omega) ⟨hf, [], ord, low, nx, bad, en, hs, hI, hX, fun x ⟨x1, x2⟩ => hM x ⟨by
          have : x ≠ m := fun e => by rw [e, c43] at x2; exact absurd x2 (by decide)
          omega, x2⟩⟩
      · refine zw_aload_n dX4_lookFor_46 rfl ?_
        refine zw_getR dX4_lookFor_47 zfX4_21 rfl (xk_21 h) (by decide) (xg_4_3 h) ?_
        refine zw_iload dX4_lookFor_50 rfl ?_
        refine zw_iaload dX4_lookFor_52 (xk_25 h) (zin_of (xl_25 h) (vp_in_nI (by omega) (by omega))) ?_
        rw [nI_clamp (show m < 2 ^ 31 by omega), hm25]
        refine zw_ifne (tgt := 65) dX4_lookFor_53 (by decide) (fun c53 => ?_) (fun c53 => ?_)
        · refine zw_iinc dX4_lookFor_65 rfl (by decide) rfl ?_
          refine zw_goto (tgt := 27) dX4_lookFor_68 (by decide) ?_
          refine zw_loc (lc' := [(0, .ref 21), (1, .int (nI f)), (2, .ref 8), (5, .int (ev)), (6, .int (nI m + 1))]) (zsub_cons rfl (zsub_cons rfl (zsub_cons rfl (zsub_cons rfl (zsub_cons rfl zsub_nil))))) ?_
          rw [nI_1]
          exact ih (m + 1) _ (by omega) ⟨hf, [], ord, low, nx, bad, en, hs, hI, hX, fun x ⟨x1, x2⟩ => by
            by_cases e : x = m
            · rw [e]
              exact fun e2 => c53 (by rw [e2]; exact nI_0)
            · exact hM x ⟨by omega, x2⟩⟩
        · replace c43 := zb_1.mp c43
          have hom0 : ord m = 0 := (nI_eq hom (by omega)).mp (c53.trans nI_0.symm)
          refine zw_aload_n dX4_lookFor_56 rfl ?_
          refine zw_iload dX4_lookFor_57 rfl ?_
          refine zw_aload_n dX4_lookFor_59 rfl ?_
          refine zw_iload dX4_lookFor_60 rfl ?_
          refine zw_callV (y' := zmX4_walkFrom) dX4_lookFor_62 zlX4_50 zmX4_walkFrom_ok (xk_21 h) (by decide) rfl (c_X4_walkFrom (M := fun x => x < m ∧ w x = true) h0 hgr hT hv1 hv2 hf hs hI hX hM (show m < n by omega) c43 hom0 hTf hSf) rfl rfl (Nat.le_of_ble_eq_true rfl) ⟨Nat.le_of_ble_eq_true rfl, Nat.le_of_ble_eq_true rfl⟩ ⟨Nat.le_of_ble_eq_true rfl, Nat.le_of_ble_eq_true rfl⟩ ?_
          intro v62 s62 q62
          obtain ⟨rfl, hz1, wt2, o2, l2, x2, b2, e2, k1, k2, k3, k4⟩ := q62
          refine zw_iinc dX4_lookFor_65 rfl (by decide) rfl ?_
          refine zw_goto (tgt := 27) dX4_lookFor_68 (by decide) ?_
          refine zw_loc (lc' := [(0, .ref 21), (1, .int (nI f)), (2, .ref 8), (5, .int (ev)), (6, .int (nI m + 1))]) (zsub_cons rfl (zsub_cons rfl (zsub_cons rfl (zsub_cons rfl (zsub_cons rfl zsub_nil))))) ?_
          rw [nI_1]
          exact ih (m + 1) s62 (by omega) ⟨hz1, wt2, o2, l2, x2, b2, e2, k1, k2, k3, fun x ⟨x1, x2⟩ => k4 x (by
            by_cases e : x = m
            · exact Or.inr e
            · exact Or.inl ⟨by omega, x2⟩)⟩
set_option maxHeartbeats 4000000 in
set_option maxRecDepth 100000 in
theorem c_X4_lookFor {l : Launch} {σ0 : zS} (h0 : xSh σ0) {n nf f : Nat} {w : Nat → Bool} (hn : n ≤ 400) (hS : zF σ0 3 8 8 = nI n) (hnf : xFz σ0 = nI nf) (hnf12 : nf ≤ 12) (hf : f < nf) (hw : ∀ s, s < n → w s = !xHold σ0 f (zI σ0 9 s)) {pk : Nat} {fs : Nat → Nat} {E : Nat → List Nat} {pv : Int32} (hgr : xGr σ0 pk n (fs n) fs E) (hT : fs n < 2 ^ 20) (hv1 : ∀ s, s < n → zI σ0 13 s &&& ((1 <<< (pv &&& 31)) - 1) = 0 → E s = []) (hv2 : ∀ s, s < n → E s = [] → zI σ0 13 s = 0) (hTf : zF σ0 3 9 8 = nI (fs n)) (hSf : zF σ0 3 8 8 = nI n) (hq : zF σ0 4 11 21 ≠ nI f) : zAM l zmX4_lookFor 5 122 0 0 [.ref 21, .int (nI f), .ref 8, .ref 17, .int pv] σ0 (fun r σ' => r = none ∧ xTg σ0 σ' ∧ zF σ' 4 11 21 = nI f ∧ ∃ bad, (∀ t, t < n → zI σ' 24 t = zb (bad t)) ∧ tDone n E w bad) := by
  refine zAM.of (by decide +kernel) (Nat.le_of_ble_eq_true rfl) ?_
  refine zw_iload_n dX4_lookFor_0 rfl ?_
  refine zw_aload_n dX4_lookFor_1 rfl ?_
  refine zw_getI dX4_lookFor_2 zfX4_37 rfl (xk_21 h0) (by decide) ?_
  refine zw_icmpne (tgt := 9) dX4_lookFor_5 (by decide) (fun c5 => ?_) (fun c5 => ?_)
  · refine zw_aload_n dX4_lookFor_9 rfl ?_
    refine zw_iload_n dX4_lookFor_10 rfl ?_
    refine zw_aload_n dX4_lookFor_11 rfl ?_
    refine zw_aload_n dX4_lookFor_12 rfl ?_
    refine zw_callV (y' := zmX4_begin) dX4_lookFor_13 zlX4_41 zmX4_begin_ok (xk_21 h0) (by decide) rfl (c_X4_begin h0 hn hS hnf hnf12 hf hw) rfl rfl (Nat.le_of_ble_eq_true rfl) ⟨Nat.le_of_ble_eq_true rfl, Nat.le_of_ble_eq_true rfl⟩ ⟨Nat.le_of_ble_eq_true rfl, Nat.le_of_ble_eq_true rfl⟩ ?_
    intro v13 s13 q13
    obtain ⟨rfl, g1, g2⟩ := q13
    have h1 := g1.sh h0
    refine zw_iconst (x := 1) dX4_lookFor_16 rfl ?_
    refine zw_iload dX4_lookFor_17 rfl ?_
    refine zw_ishl dX4_lookFor_19 ?_
    refine zw_iconst (x := 1) dX4_lookFor_20 rfl ?_
    refine zw_isub dX4_lookFor_21 ?_
    refine zw_istore dX4_lookFor_22 (by decide) rfl ?_
    refine zw_iconst (x := 0) dX4_lookFor_24 rfl ?_
    refine zw_istore dX4_lookFor_25 (by decide) rfl ?_
    have hgr1 := g1.gr hgr
    have e13 : zI s13 13 = zI σ0 13 := g1.2.2.2.2.2.2.2 13 (by decide)
    refine zw_loc (lc' := [(0, .ref 21), (1, .int (nI f)), (2, .ref 8), (5, .int ((1 <<< (pv &&& 31)) - 1)), (6, .int (nI 0))]) (zsub_cons rfl (zsub_cons rfl (zsub_cons rfl (zsub_cons rfl (zsub_cons rfl zsub_nil))))) ?_
    exact lp_look (l := l) (f := f) (w := w) (ev := (1 <<< (pv &&& 31)) - 1) h1 hgr1 hT (by rw [e13]; exact hv1) (by rw [e13]; exact hv2) ((g1.2.2.2.2.2.2.1 3 9 8 (by decide)).trans hTf) ((g1.2.2.2.2.2.2.1 3 8 8 (by decide)).trans hSf) (fun σ' p1 p2 p3 => ⟨rfl, g1.tr p1, p2, p3⟩) n 0 s13 (Nat.zero_add _) ⟨xTf.rf _, [], fun _ => 0, fun _ => 0, fun _ => 0, fun _ => false, 0, g2, tInv_0 (fun _ => rfl) (fun _ => rfl), tEx_0 (fun _ => rfl), fun x ⟨x1, _⟩ => absurd x1 (Nat.not_lt_zero _)⟩
  · exact absurd c5.symm hq
set_option maxHeartbeats 4000000 in
set_option maxRecDepth 100000 in
theorem c_X4_lookFor_same {l : Launch} {σ0 : zS} (h0 : xSh σ0) {f : Nat} {pv : Int32} (hq : zF σ0 4 11 21 = nI f) : zAM l zmX4_lookFor 5 122 0 0 [.ref 21, .int (nI f), .ref 8, .ref 17, .int pv] σ0 (fun r σ' => r = none ∧ σ' = σ0) := by
  refine zAM.of (by decide +kernel) (Nat.le_of_ble_eq_true rfl) ?_
  refine zw_iload_n dX4_lookFor_0 rfl ?_
  refine zw_aload_n dX4_lookFor_1 rfl ?_
  refine zw_getI dX4_lookFor_2 zfX4_37 rfl (xk_21 h0) (by decide) ?_
  refine zw_icmpne (tgt := 9) dX4_lookFor_5 (by decide) (fun c5 => ?_) (fun c5 => ?_)
  · exact absurd hq.symm c5
  · refine zw_vret dX4_lookFor_8 rfl ?_
    exact ⟨rfl, rfl⟩
