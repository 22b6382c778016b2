/-! explore, facts -/
def xIsK (kn f : Int32) : Bool := decide (¬ xSr kn f &&& 1 = 0)
/-- a fact at a key, those before it being known -/
def xTr (σ : zS) (f : Nat) (k kn : Int32) : Bool :=
  if zI σ 18 f = 0 then decide (xLoc k (zI σ 19 f) = zI σ 20 f) else if zI σ 18 f = 1 then decide (xVal k (zI σ 19 f) = zI σ 20 f) else if zI σ 18 f = 2 then decide (xVal k (zI σ 19 f) ≤ zI σ 20 f)
  else if zI σ 18 f = 3 then !xIsK kn (zI σ 19 f) else if zI σ 18 f = 4 then xIsK kn (zI σ 19 f) && xIsK kn (zI σ 20 f) else xIsK kn (zI σ 19 f) || xIsK kn (zI σ 20 f)
/-- what is known of the facts from f on, d of them -/
def xKn (σ : zS) (k : Int32) : Nat → Nat → Int32 → Int32
  | 0, _, kn => kn
  | d + 1, f, kn => xKn σ k d (f + 1) (if xTr σ f k kn = true then kn ||| (1 <<< (nI f &&& 31)) else kn)
/-- whether the fact holds at a key -/
def xHold (σ : zS) (f : Nat) (k : Int32) : Bool := xIsK (xKn σ k (f + 1) 0 0) (nI f)
def xFz (σ : zS) : Int32 := zF σ 0 3 17
theorem xPro_41 {σ : zS} {P : Nat} {mc : Nat → Nat} {mid : Nat → Nat → Nat} (h : xPro σ P mc mid) (x : Int32) : xPro (zsF σ 4 11 21 x) P mc mid := by
  obtain ⟨h1, h2, h3, h4⟩ := h
  refine ⟨?_, h2, h3, fun p m hp hm => ?_⟩
  · rw [← h1]
    unfold xP
    rw [zF_zsF, if_neg (by decide)]
  · rw [zF_zsF, if_neg (fun q => absurd q.1 (by decide)), zF_zsF, if_neg (fun q => absurd q.1 (by decide))]
    exact h4 p m hp hm
theorem xV_41 (σ : zS) (x : Int32) : xV (zsF σ 4 11 21 x) = xV σ := by
  unfold xV
  rw [zF_zsF, if_neg (by decide)]
theorem znz (b : Bool) : narrow .boolean (.int (zb b)) = .int (zb b) := by cases b <;> rfl
theorem zsplit04 (x : Int32) : x = 0 ∨ x = 1 ∨ x = 2 ∨ x = 3 ∨ x = 4 ∨ (x.toInt < 0 ∨ 4 < x.toInt) := by
  rcases zsplit3 x with h | h | h | h | h
  · exact Or.inl h
  · exact Or.inr (Or.inl h)
  · exact Or.inr (Or.inr (Or.inl h))
  · exact Or.inr (Or.inr (Or.inr (Or.inl h)))
  · by_cases q : x.toInt = 4
    · exact Or.inr (Or.inr (Or.inr (Or.inr (Or.inl (Int32.toInt_inj.mp (q.trans zt_4.symm))))))
    · exact Or.inr (Or.inr (Or.inr (Or.inr (Or.inr (by omega)))))
set_option maxHeartbeats 4000000 in
set_option maxRecDepth 100000 in
theorem c_X5_explore {l : Launch} {σ : zS} {P V pk : Nat} {mc : Nat → Nat} {mid : Nat → Nat → Nat} (h : xSh σ) (hpk : xPk σ pk) (hL : zL σ pk ≤ 2048) (hL1 : 1 ≤ zL σ pk) (hpro : xPro σ P mc mid) (hP1 : 1 ≤ P) (hV : xV σ = nI V) (hV4 : V ≤ 4) : zAM l zmX5_explore 6 163 (zn (xFl (zsF σ 4 11 21 (-1)) P mc mid 400 0 (xBg (zsF σ 4 11 21 (-1)) (xKb (zsF σ 4 11 21 (-1)) V 0 0))) - zn σ) (2 * (xLen (xFl (zsF σ 4 11 21 (-1)) P mc mid 400 0 (xBg (zsF σ 4 11 21 (-1)) (xKb (zsF σ 4 11 21 (-1)) V 0 0))) - xLen σ)) [.ref 1] σ (fun v σ' => v = some (.int (xAns (xFl (zsF σ 4 11 21 (-1)) P mc mid 400 0 (xBg (zsF σ 4 11 21 (-1)) (xKb (zsF σ 4 11 21 (-1)) V 0 0))))) ∧ σ' = xEnd (xFl (zsF σ 4 11 21 (-1)) P mc mid 400 0 (xBg (zsF σ 4 11 21 (-1)) (xKb (zsF σ 4 11 21 (-1)) V 0 0)))) := by
  refine zAM.of (by decide +kernel) (Nat.le_of_ble_eq_true rfl) ?_
  refine zw_aload_n dX5_explore_0 rfl ?_
  refine zw_getR dX5_explore_1 zfX5_12 rfl (xk_1 h) (by decide) (xg_5_0 h) ?_
  refine zw_getI dX5_explore_4 zfX5_48 rfl (xk_2 h) (by decide) ?_
  
  refine zw_ifne (tgt := 20) dX5_explore_7 (by decide) (fun c7 => ?_) (fun c7 => ?_)
  · refine zw_aload_n dX5_explore_20 rfl ?_
    refine zw_getR dX5_explore_21 zfX5_33 rfl (xk_1 h) (by decide) (xg_5_3 h) ?_
    refine zw_callV (y' := zmX4_forget) dX5_explore_24 zlX5_141 zmX4_forget_ok (xk_21 h) (by decide) rfl (c_X4_forget h) rfl rfl (Nat.le_of_ble_eq_true rfl) ⟨Nat.le_of_ble_eq_true rfl, Nat.le_of_ble_eq_true rfl⟩ ⟨Nat.le_trans (Nat.le_of_ble_eq_true rfl : _ ≤ 0) (Nat.zero_le _), Nat.le_trans (Nat.le_of_ble_eq_true rfl : _ ≤ 0) (Nat.zero_le _)⟩ ?_
    intro v24 s24 q24
    obtain ⟨rfl, z24⟩ := q24
    rw [z24]
    clear z24
    refine zw_aload_n dX5_explore_27 rfl ?_
    refine zw_getR dX5_explore_28 zfX5_19 rfl (xk_1 h) (by decide) (xg_5_1 h) ?_
    refine zw_aload_n dX5_explore_31 rfl ?_
    refine zw_getR dX5_explore_32 zfX5_12 rfl (xk_1 h) (by decide) (xg_5_0 h) ?_
    refine zw_callV (y' := zmX3_fill) dX5_explore_35 zlX5_142 zmX3_fill_ok (xk_8 h) (by decide) rfl (c_X3_fill (σ := zsF σ 4 11 21 (-1)) (P := P) (V := V) (pk := pk) (mc := mc) (mid := mid) h hpk hL hL1 (xPro_41 hpro (-1)) ((xV_41 σ (-1)).trans hV) hV4) rfl rfl (Nat.le_of_ble_eq_true rfl) ⟨Nat.le_of_ble_eq_true rfl, Nat.le_of_ble_eq_true rfl⟩ ⟨Nat.le_of_eq (Nat.zero_add _), Nat.le_of_eq (Nat.zero_add _)⟩ ?_
    intro v35 s35 q35
    obtain ⟨rfl, z35⟩ := q35
    rw [z35]
    clear z35
    refine zw_iret dX5_explore_38 rfl rfl ?_
    exact ⟨rfl, rfl⟩
  · exfalso
    rw [show zF σ 2 5 2 = nI P from hpro.1] at c7
    exact nI_ne0 hP1 (by have := hpro.2.1; omega) c7
set_option maxHeartbeats 4000000 in
set_option maxRecDepth 100000 in
theorem c_X0_hasFact {l : Launch} {σ : zS} (h : xSh σ) (p : Int32) : zAM l zmX0_hasFact 0 0 0 0 [.ref 17, .int p] σ (fun v σ' => v = some (.int (zb (decide (0 ≤ p ∧ p < xFz σ)))) ∧ σ' = σ) := by
  refine zAM.of (by decide +kernel) (Nat.le_of_ble_eq_true rfl) ?_
  refine zw_iload_n dX0_hasFact_0 rfl ?_
  refine zw_iflt (tgt := 16) dX0_hasFact_1 (by decide) (fun c1 => ?_) (fun c1 => ?_)
  · refine zw_iconst (x := 0) dX0_hasFact_16 rfl ?_
    refine zw_iret dX0_hasFact_17 rfl rfl ?_
    unfold xFz
    refine ⟨?_, rfl⟩
    first | rw [zb_t (by simp only [Int32.lt_iff_toInt_lt, Int32.le_iff_toInt_le, vp_in_iff, zt_0, zt_1, zt_2, zt_3, zt_4, zt_5, zt_6, zt_7, zt_8, zt_9, zt_10, zt_11, zt_12, zt_13, zt_14, zt_15, zt_16, zt_17, zt_18, zt_19, zt_20, zt_21, zt_22, zt_23, zt_24, zt_25, zt_26, zt_27, zt_28, zt_29, zt_30, zt_31, zt_63, zt_255, zt_400, zt_401, zt_397, zt_511, zt_512, zt_1024, zt_1023, zt_2048, zt_m1, zt_m2, zt_m9] at *; omega)] | rw [zb_f (by simp only [Int32.lt_iff_toInt_lt, Int32.le_iff_toInt_le, vp_in_iff, zt_0, zt_1, zt_2, zt_3, zt_4, zt_5, zt_6, zt_7, zt_8, zt_9, zt_10, zt_11, zt_12, zt_13, zt_14, zt_15, zt_16, zt_17, zt_18, zt_19, zt_20, zt_21, zt_22, zt_23, zt_24, zt_25, zt_26, zt_27, zt_28, zt_29, zt_30, zt_31, zt_63, zt_255, zt_400, zt_401, zt_397, zt_511, zt_512, zt_1024, zt_1023, zt_2048, zt_m1, zt_m2, zt_m9] at *; omega)]
  · refine zw_iload_n dX0_hasFact_4 rfl ?_
    refine zw_aload_n dX0_hasFact_5 rfl ?_
    refine zw_getI dX0_hasFact_6 zfX0_21 rfl (xk_17 h) (by decide) ?_
    refine zw_icmpge (tgt := 16) dX0_hasFact_9 (by decide) (fun c9 => ?_) (fun c9 => ?_)
    · refine zw_iconst (x := 0) dX0_hasFact_16 rfl ?_
      refine zw_iret dX0_hasFact_17 rfl rfl ?_
      unfold xFz
      refine ⟨?_, rfl⟩
      first | rw [zb_t (by simp only [Int32.lt_iff_toInt_lt, Int32.le_iff_toInt_le, vp_in_iff, zt_0, zt_1, zt_2, zt_3, zt_4, zt_5, zt_6, zt_7, zt_8, zt_9, zt_10, zt_11, zt_12, zt_13, zt_14, zt_15, zt_16, zt_17, zt_18, zt_19, zt_20, zt_21, zt_22, zt_23, zt_24, zt_25, zt_26, zt_27, zt_28, zt_29, zt_30, zt_31, zt_63, zt_255, zt_400, zt_401, zt_397, zt_511, zt_512, zt_1024, zt_1023, zt_2048, zt_m1, zt_m2, zt_m9] at *; omega)] | rw [zb_f (by simp only [Int32.lt_iff_toInt_lt, Int32.le_iff_toInt_le, vp_in_iff, zt_0, zt_1, zt_2, zt_3, zt_4, zt_5, zt_6, zt_7, zt_8, zt_9, zt_10, zt_11, zt_12, zt_13, zt_14, zt_15, zt_16, zt_17, zt_18, zt_19, zt_20, zt_21, zt_22, zt_23, zt_24, zt_25, zt_26, zt_27, zt_28, zt_29, zt_30, zt_31, zt_63, zt_255, zt_400, zt_401, zt_397, zt_511, zt_512, zt_1024, zt_1023, zt_2048, zt_m1, zt_m2, zt_m9] at *; omega)]
    · refine zw_iconst (x := 1) dX0_hasFact_12 rfl ?_
      refine zw_goto (tgt := 17) dX0_hasFact_13 (by decide) ?_
      refine zw_iret dX0_hasFact_17 rfl rfl ?_
      unfold xFz
      refine ⟨?_, rfl⟩
      first | rw [zb_t (by simp only [Int32.lt_iff_toInt_lt, Int32.le_iff_toInt_le, vp_in_iff, zt_0, zt_1, zt_2, zt_3, zt_4, zt_5, zt_6, zt_7, zt_8, zt_9, zt_10, zt_11, zt_12, zt_13, zt_14, zt_15, zt_16, zt_17, zt_18, zt_19, zt_20, zt_21, zt_22, zt_23, zt_24, zt_25, zt_26, zt_27, zt_28, zt_29, zt_30, zt_31, zt_63, zt_255, zt_400, zt_401, zt_397, zt_511, zt_512, zt_1024, zt_1023, zt_2048, zt_m1, zt_m2, zt_m9] at *; omega)] | rw [zb_f (by simp only [Int32.lt_iff_toInt_lt, Int32.le_iff_toInt_le, vp_in_iff, zt_0, zt_1, zt_2, zt_3, zt_4, zt_5, zt_6, zt_7, zt_8, zt_9, zt_10, zt_11, zt_12, zt_13, zt_14, zt_15, zt_16, zt_17, zt_18, zt_19, zt_20, zt_21, zt_22, zt_23, zt_24, zt_25, zt_26, zt_27, zt_28, zt_29, zt_30, zt_31, zt_63, zt_255, zt_400, zt_401, zt_397, zt_511, zt_512, zt_1024, zt_1023, zt_2048, zt_m1, zt_m2, zt_m9] at *; omega)]
set_option maxHeartbeats 4000000 in
set_option maxRecDepth 100000 in
theorem c_X0_newFact {l : Launch} {σ : zS} (h : xSh σ) {n : Nat} (hn : xFz σ = nI n) (hn12 : n < 12) (s a b : Int32) : zAM l zmX0_newFact 0 0 0 0 [.ref 17, .int s, .int a, .int b] σ (fun v σ' => v = some (.int (nI n)) ∧ σ' = zsF (zsI (zsI (zsI σ 18 n s) 19 n a) 20 n b) 0 3 17 (nI (n + 1))) := by
  refine zAM.of (by decide +kernel) (Nat.le_of_ble_eq_true rfl) ?_
  refine zw_aload_n dX0_newFact_0 rfl ?_
  refine zw_getR dX0_newFact_1 zfX0_9 rfl (xk_17 h) (by decide) (xg_0_0 h) ?_
  refine zw_aload_n dX0_newFact_4 rfl ?_
  refine zw_getI dX0_newFact_5 zfX0_21 rfl (xk_17 h) (by decide) ?_
  refine zw_iload_n dX0_newFact_8 rfl ?_
  refine zw_iastore dX0_newFact_9 (xk_18 h) (by decide) (zin_of (xl_18 h) (by rw [show zF σ 0 3 17 = nI n from hn]; exact vp_in_nI (by omega) (by omega))) ?_
  refine zw_aload_n dX0_newFact_10 rfl ?_
  refine zw_getR dX0_newFact_11 zfX0_15 rfl (xk_17 h) (by decide) (xg_0_1 h) ?_
  refine zw_aload_n dX0_newFact_14 rfl ?_
  refine zw_getI dX0_newFact_15 zfX0_21 rfl (xk_17 h) (by decide) ?_
  refine zw_iload_n dX0_newFact_18 rfl ?_
  refine zw_iastore dX0_newFact_19 (xk_19 h) (by decide) (zin_of (xl_19 h) (by rw [zF_zsI, show zF σ 0 3 17 = nI n from hn]; exact vp_in_nI (by omega) (by omega))) ?_
  refine zw_aload_n dX0_newFact_20 rfl ?_
  refine zw_getR dX0_newFact_21 zfX0_18 rfl (xk_17 h) (by decide) (xg_0_2 h) ?_
  refine zw_aload_n dX0_newFact_24 rfl ?_
  refine zw_getI dX0_newFact_25 zfX0_21 rfl (xk_17 h) (by decide) ?_
  refine zw_iload_n dX0_newFact_28 rfl ?_
  refine zw_iastore dX0_newFact_29 (xk_20 h) (by decide) (zin_of (xl_20 h) (by rw [zF_zsI, zF_zsI, show zF σ 0 3 17 = nI n from hn]; exact vp_in_nI (by omega) (by omega))) ?_
  refine zw_aload_n dX0_newFact_30 rfl ?_
  refine zw_dup dX0_newFact_31 rfl ?_
  refine zw_getI dX0_newFact_32 zfX0_21 rfl (xk_17 h) (by decide) ?_
  refine zw_iconst (x := 1) dX0_newFact_35 rfl ?_
  refine zw_iadd dX0_newFact_36 ?_
  refine zw_putI dX0_newFact_37 zfX0_21 rfl rfl ⟨rfl, rfl⟩ (xk_17 h) (by decide) ?_
  refine zw_aload_n dX0_newFact_40 rfl ?_
  refine zw_getI dX0_newFact_41 zfX0_21 rfl (xk_17 h) (by decide) ?_
  refine zw_iconst (x := 1) dX0_newFact_44 rfl ?_
  refine zw_isub dX0_newFact_45 ?_
  refine zw_iret dX0_newFact_46 rfl rfl ?_
  refine ⟨?_, ?_⟩
  · rw [zF_zsF, if_pos ⟨rfl, rfl, rfl⟩, zF_zsI, zF_zsI, zF_zsI, show zF σ 0 3 17 = nI n from hn, i32_sub1]
  · simp only [zF_zsI, show zF σ 0 3 17 = nI n from hn, nI_clamp (show n < 2 ^ 31 by omega), nI_1]
set_option maxHeartbeats 4000000 in
set_option maxRecDepth 100000 in
theorem c_X0_isKnown {l : Launch} {σ : zS} (k f : Int32) : zAM l zmX0_isKnown 0 0 0 0 [.int k, .int f] σ (fun v σ' => v = some (.int (zb (xIsK k f))) ∧ σ' = σ) := by
  refine zAM.of (by decide +kernel) (Nat.le_of_ble_eq_true rfl) ?_
  refine zw_iload_n dX0_isKnown_0 rfl ?_
  refine zw_iload_n dX0_isKnown_1 rfl ?_
  refine zw_iushr dX0_isKnown_2 ?_
  refine zw_iconst (x := 1) dX0_isKnown_3 rfl ?_
  refine zw_iand dX0_isKnown_4 ?_
  refine zw_ifeq (tgt := 12) dX0_isKnown_5 (by decide) (fun c5 => ?_) (fun c5 => ?_)
  · refine zw_iconst (x := 0) dX0_isKnown_12 rfl ?_
    refine zw_iret dX0_isKnown_13 rfl rfl ?_
    refine ⟨?_, rfl⟩
    unfold xIsK xSr
    simp_all [zb]
  · refine zw_iconst (x := 1) dX0_isKnown_8 rfl ?_
    refine zw_goto (tgt := 13) dX0_isKnown_9 (by decide) ?_
    refine zw_iret dX0_isKnown_13 rfl rfl ?_
    refine ⟨?_, rfl⟩
    unfold xIsK xSr
    simp_all [zb]
set_option maxHeartbeats 4000000 in
set_option maxRecDepth 100000 in
theorem c_X0_isTrue {l : Launch} {σ : zS} (h : xSh σ) {f : Nat} (hf : f < 12) (k kn : Int32) : zAM l zmX0_isTrue 1 21 0 0 [.ref 17, .int (nI f), .int k, .int kn] σ (fun v σ' => v = some (.int (zb (xTr σ f k kn))) ∧ σ' = σ) := by
  refine zAM.of (by decide +kernel) (Nat.le_of_ble_eq_true rfl) ?_
  refine zw_aload_n dX0_isTrue_0 rfl ?_
  refine zw_getR dX0_isTrue_1 zfX0_15 rfl (xk_17 h) (by decide) (xg_0_1 h) ?_
  refine zw_iload_n dX0_isTrue_4 rfl ?_
  refine zw_iaload dX0_isTrue_5 (xk_19 h) (zin_of (xl_19 h) (vp_in_nI (by omega) (by omega))) ?_
  rw [nI_clamp (n := f) (by omega)]
  refine zw_istore dX0_isTrue_6 (by decide) rfl ?_
  refine zw_aload_n dX0_isTrue_8 rfl ?_
  refine zw_getR dX0_isTrue_9 zfX0_18 rfl (xk_17 h) (by decide) (xg_0_2 h) ?_
  refine zw_iload_n dX0_isTrue_12 rfl ?_
  refine zw_iaload dX0_isTrue_13 (xk_20 h) (zin_of (xl_20 h) (vp_in_nI (by omega) (by omega))) ?_
  rw [nI_clamp (n := f) (by omega)]
  refine zw_istore dX0_isTrue_14 (by decide) rfl ?_
  refine zw_aload_n dX0_isTrue_16 rfl ?_
  refine zw_getR dX0_isTrue_17 zfX0_9 rfl (xk_17 h) (by decide) (xg_0_0 h) ?_
  refine zw_iload_n dX0_isTrue_20 rfl ?_
  refine zw_iaload dX0_isTrue_21 (xk_18 h) (zin_of (xl_18 h) (vp_in_nI (by omega) (by omega))) ?_
  rw [nI_clamp (n := f) (by omega)]
  generalize hgs : zI σ 18 f = gs
  rcases zsplit04 gs with rfl | rfl | rfl | rfl | rfl | hw
  · refine zw_tableIn (off := 34) (tgt := 56) dX0_isTrue_22 (by decide) (by decide) (by decide) (by decide) ?_
    refine zw_iload_n dX0_isTrue_56 rfl ?_
    refine zw_iload dX0_isTrue_57 rfl ?_
    refine zw_callS (y' := zmX5_locationIn) dX0_isTrue_59 zlX0_33 zmX5_locationIn_ok (c_X5_locationIn _ _) rfl rfl (Nat.le_of_ble_eq_true rfl) ⟨Nat.le_of_ble_eq_true rfl, Nat.le_of_ble_eq_true rfl⟩ ⟨Nat.le_of_ble_eq_true rfl, Nat.le_of_ble_eq_true rfl⟩ ?_
    intro v59 s59 q59
    obtain ⟨rfl, z59⟩ := q59
    rw [z59]
    clear z59
    refine zw_iload dX0_isTrue_62 rfl ?_
    refine zw_icmpne (tgt := 71) dX0_isTrue_64 (by decide) (fun c64 => ?_) (fun c64 => ?_)
    · refine zw_iconst (x := 0) dX0_isTrue_71 rfl ?_
      refine zw_iret dX0_isTrue_72 rfl rfl ?_
      refine ⟨?_, rfl⟩
      (try have n0 : gs ≠ 0 := fun e => by subst e; revert hw; decide)
      (try have n1 : gs ≠ 1 := fun e => by subst e; revert hw; decide)
      (try have n2 : gs ≠ 2 := fun e => by subst e; revert hw; decide)
      (try have n3 : gs ≠ 3 := fun e => by subst e; revert hw; decide)
      (try have n4 : gs ≠ 4 := fun e => by subst e; revert hw; decide)
      unfold xTr
      rw [hgs]
      simp_all [zb, Int32.not_lt, Int32.not_le]
    · refine zw_iconst (x := 1) dX0_isTrue_67 rfl ?_
      refine zw_goto (tgt := 72) dX0_isTrue_68 (by decide) ?_
      refine zw_iret dX0_isTrue_72 rfl rfl ?_
      refine ⟨?_, rfl⟩
      (try have n0 : gs ≠ 0 := fun e => by subst e; revert hw; decide)
      (try have n1 : gs ≠ 1 := fun e => by subst e; revert hw; decide)
      (try have n2 : gs ≠ 2 := fun e => by subst e; revert hw; decide)
      (try have n3 : gs ≠ 3 := fun e => by subst e; revert hw; decide)
      (try have n4 : gs ≠ 4 := fun e => by subst e; revert hw; decide)
      unfold xTr
      rw [hgs]
      simp_all [zb, Int32.not_lt, Int32.not_le]
  · refine zw_tableIn (off := 51) (tgt := 73) dX0_isTrue_22 (by decide) (by decide) (by decide) (by decide) ?_
    refine zw_iload_n dX0_isTrue_73 rfl ?_
    refine zw_iload dX0_isTrue_74 rfl ?_
    refine zw_callS (y' := zmX5_valueIn) dX0_isTrue_76 zlX0_37 zmX5_valueIn_ok (c_X5_valueIn _ _) rfl rfl (Nat.le_of_ble_eq_true rfl) ⟨Nat.le_of_ble_eq_true rfl, Nat.le_of_ble_eq_true rfl⟩ ⟨Nat.le_of_ble_eq_true rfl, Nat.le_of_ble_eq_true rfl⟩ ?_
    intro v76 s76 q76
    obtain ⟨rfl, z76⟩ := q76
    rw [z76]
    clear z76
    refine zw_iload dX0_isTrue_79 rfl ?_
    refine zw_icmpne (tgt := 88) dX0_isTrue_81 (by decide) (fun c81 => ?_) (fun c81 => ?_)
    · refine zw_iconst (x := 0) dX0_isTrue_88 rfl ?_
      refine zw_iret dX0_isTrue_89 rfl rfl ?_
      refine ⟨?_, rfl⟩
      (try have n0 : gs ≠ 0 := fun e => by subst e; revert hw; decide)
      (try have n1 : gs ≠ 1 := fun e => by subst e; revert hw; decide)
      (try have n2 : gs ≠ 2 := fun e => by subst e; revert hw; decide)
      (try have n3 : gs ≠ 3 := fun e => by subst e; revert hw; decide)
      (try have n4 : gs ≠ 4 := fun e => by subst e; revert hw; decide)
      unfold xTr
      rw [hgs]
      simp_all [zb, Int32.not_lt, Int32.not_le]
    · refine zw_iconst (x := 1) dX0_isTrue_84 rfl ?_
      refine zw_goto (tgt := 89) dX0_isTrue_85 (by decide) ?_
      refine zw_iret dX0_isTrue_89 rfl rfl ?_
      refine ⟨?_, rfl⟩
      (try have n0 : gs ≠ 0 := fun e => by subst e; revert hw; decide)
      (try have n1 : gs ≠ 1 := fun e => by subst e; revert hw; decide)
      (try have n2 : gs ≠ 2 := fun e => by subst e; revert hw; decide)
      (try have n3 : gs ≠ 3 := fun e => by subst e; revert hw; decide)
      (try have n4 : gs ≠ 4 := fun e => by subst e; revert hw; decide)
      unfold xTr
      rw [hgs]
      simp_all [zb, Int32.not_lt, Int32.not_le]
  · refine zw_tableIn (off := 68) (tgt := 90) dX0_isTrue_22 (by decide) (by decide) (by decide) (by decide) ?_
    refine zw_iload_n dX0_isTrue_90 rfl ?_
    refine zw_iload dX0_isTrue_91 rfl ?_
    refine zw_callS (y' := zmX5_valueIn) dX0_isTrue_93 zlX0_37 zmX5_valueIn_ok (c_X5_valueIn _ _) rfl rfl (Nat.le_of_ble_eq_true rfl) ⟨Nat.le_of_ble_eq_true rfl, Nat.le_of_ble_eq_true rfl⟩ ⟨Nat.le_of_ble_eq_true rfl, Nat.le_of_ble_eq_true rfl⟩ ?_
    intro v93 s93 q93
    obtain ⟨rfl, z93⟩ := q93
    rw [z93]
    clear z93
    refine zw_iload dX0_isTrue_96 rfl ?_
    refine zw_icmpgt (tgt := 105) dX0_isTrue_98 (by decide) (fun c98 => ?_) (fun c98 => ?_)
    · refine zw_iconst (x := 0) dX0_isTrue_105 rfl ?_
      refine zw_iret dX0_isTrue_106 rfl rfl ?_
      refine ⟨?_, rfl⟩
      (try have n0 : gs ≠ 0 := fun e => by subst e; revert hw; decide)
      (try have n1 : gs ≠ 1 := fun e => by subst e; revert hw; decide)
      (try have n2 : gs ≠ 2 := fun e => by subst e; revert hw; decide)
      (try have n3 : gs ≠ 3 := fun e => by subst e; revert hw; decide)
      (try have n4 : gs ≠ 4 := fun e => by subst e; revert hw; decide)
      unfold xTr
      rw [hgs]
      simp_all [zb, Int32.not_lt, Int32.not_le]
    · refine zw_iconst (x := 1) dX0_isTrue_101 rfl ?_
      refine zw_goto (tgt := 106) dX0_isTrue_102 (by decide) ?_
      refine zw_iret dX0_isTrue_106 rfl rfl ?_
      refine ⟨?_, rfl⟩
      (try have n0 : gs ≠ 0 := fun e => by subst e; revert hw; decide)
      (try have n1 : gs ≠ 1 := fun e => by subst e; revert hw; decide)
      (try have n2 : gs ≠ 2 := fun e => by subst e; revert hw; decide)
      (try have n3 : gs ≠ 3 := fun e => by subst e; revert hw; decide)
      (try have n4 : gs ≠ 4 := fun e => by subst e; revert hw; decide)
      unfold xTr
      rw [hgs]
      simp_all [zb, Int32.not_lt, Int32.not_le]
  · refine zw_tableIn (off := 85) (tgt := 107) dX0_isTrue_22 (by decide) (by decide) (by decide) (by decide) ?_
    refine zw_iload_n dX0_isTrue_107 rfl ?_
    refine zw_iload dX0_isTrue_108 rfl ?_
    refine zw_callS (y' := zmX0_isKnown) dX0_isTrue_110 zlX0_29 zmX0_isKnown_ok (c_X0_isKnown _ _) rfl rfl (Nat.le_of_ble_eq_true rfl) ⟨Nat.le_of_ble_eq_true rfl, Nat.le_of_ble_eq_true rfl⟩ ⟨Nat.le_of_ble_eq_true rfl, Nat.le_of_ble_eq_true rfl⟩ ?_
    intro v110 s110 q110
    obtain ⟨rfl, z110⟩ := q110
    rw [z110]
    clear z110
    refine zw_ifne (tgt := 120) dX0_isTrue_113 (by decide) (fun c113 => ?_) (fun c113 => ?_)
    · refine zw_iconst (x := 0) dX0_isTrue_120 rfl ?_
      refine zw_iret dX0_isTrue_121 rfl rfl ?_
      refine ⟨?_, rfl⟩
      (try have n0 : gs ≠ 0 := fun e => by subst e; revert hw; decide)
      (try have n1 : gs ≠ 1 := fun e => by subst e; revert hw; decide)
      (try have n2 : gs ≠ 2 := fun e => by subst e; revert hw; decide)
      (try have n3 : gs ≠ 3 := fun e => by subst e; revert hw; decide)
      (try have n4 : gs ≠ 4 := fun e => by subst e; revert hw; decide)
      unfold xTr
      rw [hgs]
      simp_all [zb, Int32.not_lt, Int32.not_le]
    · refine zw_iconst (x := 1) dX0_isTrue_116 rfl ?_
      refine zw_goto (tgt := 121) dX0_isTrue_117 (by decide) ?_
      refine zw_iret dX0_isTrue_121 rfl rfl ?_
      refine ⟨?_, rfl⟩
      (try have n0 : gs ≠ 0 := fun e => by subst e; revert hw; decide)
      (try have n1 : gs ≠ 1 := fun e => by subst e; revert hw; decide)
      (try have n2 : gs ≠ 2 := fun e => by subst e; revert hw; decide)
      (try have n3 : gs ≠ 3 := fun e => by subst e; revert hw; decide)
      (try have n4 : gs ≠ 4 := fun e => by subst e; revert hw; decide)
      unfold xTr
      rw [hgs]
      simp_all [zb, Int32.not_lt, Int32.not_le]
  · refine zw_tableIn (off := 100) (tgt := 122) dX0_isTrue_22 (by decide) (by decide) (by decide) (by decide) ?_
    refine zw_iload_n dX0_isTrue_122 rfl ?_
    refine zw_iload dX0_isTrue_123 rfl ?_
    refine zw_callS (y' := zmX0_isKnown) dX0_isTrue_125 zlX0_29 zmX0_isKnown_ok (c_X0_isKnown _ _) rfl rfl (Nat.le_of_ble_eq_true rfl) ⟨Nat.le_of_ble_eq_true rfl, Nat.le_of_ble_eq_true rfl⟩ ⟨Nat.le_of_ble_eq_true rfl, Nat.le_of_ble_eq_true rfl⟩ ?_
    intro v125 s125 q125
    obtain ⟨rfl, z125⟩ := q125
    rw [z125]
    clear z125
    refine zw_ifeq (tgt := 144) dX0_isTrue_128 (by decide) (fun c128 => ?_) (fun c128 => ?_)
    · refine zw_iconst (x := 0) dX0_isTrue_144 rfl ?_
      refine zw_iret dX0_isTrue_145 rfl rfl ?_
      refine ⟨?_, rfl⟩
      (try have n0 : gs ≠ 0 := fun e => by subst e; revert hw; decide)
      (try have n1 : gs ≠ 1 := fun e => by subst e; revert hw; decide)
      (try have n2 : gs ≠ 2 := fun e => by subst e; revert hw; decide)
      (try have n3 : gs ≠ 3 := fun e => by subst e; revert hw; decide)
      (try have n4 : gs ≠ 4 := fun e => by subst e; revert hw; decide)
      unfold xTr
      rw [hgs]
      simp_all [zb, Int32.not_lt, Int32.not_le]
    · refine zw_iload_n dX0_isTrue_131 rfl ?_
      refine zw_iload dX0_isTrue_132 rfl ?_
      refine zw_callS (y' := zmX0_isKnown) dX0_isTrue_134 zlX0_29 zmX0_isKnown_ok (c_X0_isKnown _ _) rfl rfl (Nat.le_of_ble_eq_true rfl) ⟨Nat.le_of_ble_eq_true rfl, Nat.le_of_ble_eq_true rfl⟩ ⟨Nat.le_of_ble_eq_true rfl, Nat.le_of_ble_eq_true rfl⟩ ?_
      intro v134 s134 q134
      obtain ⟨rfl, z134⟩ := q134
      rw [z134]
      clear z134
      refine zw_ifeq (tgt := 144) dX0_isTrue_137 (by decide) (fun c137 => ?_) (fun c137 => ?_)
      · refine zw_iconst (x := 0) dX0_isTrue_144 rfl ?_
        refine zw_iret dX0_isTrue_145 rfl rfl ?_
        refine ⟨?_, rfl⟩
        (try have n0 : gs ≠ 0 := fun e => by subst e; revert hw; decide)
        (try have n1 : gs ≠ 1 := fun e => by subst e; revert hw; decide)
        (try have n2 : gs ≠ 2 := fun e => by subst e; revert hw; decide)
        (try have n3 : gs ≠ 3 := fun e => by subst e; revert hw; decide)
        (try have n4 : gs ≠ 4 := fun e => by subst e; revert hw; decide)
        unfold xTr
        rw [hgs]
        simp_all [zb, Int32.not_lt, Int32.not_le]
      · refine zw_iconst (x := 1) dX0_isTrue_140 rfl ?_
        refine zw_goto (tgt := 145) dX0_isTrue_141 (by decide) ?_
        refine zw_iret dX0_isTrue_145 rfl rfl ?_
        refine ⟨?_, rfl⟩
        (try have n0 : gs ≠ 0 := fun e => by subst e; revert hw; decide)
        (try have n1 : gs ≠ 1 := fun e => by subst e; revert hw; decide)
        (try have n2 : gs ≠ 2 := fun e => by subst e; revert hw; decide)
        (try have n3 : gs ≠ 3 := fun e => by subst e; revert hw; decide)
        (try have n4 : gs ≠ 4 := fun e => by subst e; revert hw; decide)
        unfold xTr
        rw [hgs]
        simp_all [zb, Int32.not_lt, Int32.not_le]
  · refine zw_tableOut (tgt := 146) dX0_isTrue_22 hw (by decide) ?_
    refine zw_iload_n dX0_isTrue_146 rfl ?_
    refine zw_iload dX0_isTrue_147 rfl ?_
    refine zw_callS (y' := zmX0_isKnown) dX0_isTrue_149 zlX0_29 zmX0_isKnown_ok (c_X0_isKnown _ _) rfl rfl (Nat.le_of_ble_eq_true rfl) ⟨Nat.le_of_ble_eq_true rfl, Nat.le_of_ble_eq_true rfl⟩ ⟨Nat.le_of_ble_eq_true rfl, Nat.le_of_ble_eq_true rfl⟩ ?_
    intro v149 s149 q149
    obtain ⟨rfl, z149⟩ := q149
    rw [z149]
    clear z149
    refine zw_ifne (tgt := 164) dX0_isTrue_152 (by decide) (fun c152 => ?_) (fun c152 => ?_)
    · refine zw_iconst (x := 1) dX0_isTrue_164 rfl ?_
      refine zw_goto (tgt := 169) dX0_isTrue_165 (by decide) ?_
      refine zw_iret dX0_isTrue_169 rfl rfl ?_
      refine ⟨?_, rfl⟩
      (try have n0 : gs ≠ 0 := fun e => by subst e; revert hw; decide)
      (try have n1 : gs ≠ 1 := fun e => by subst e; revert hw; decide)
      (try have n2 : gs ≠ 2 := fun e => by subst e; revert hw; decide)
      (try have n3 : gs ≠ 3 := fun e => by subst e; revert hw; decide)
      (try have n4 : gs ≠ 4 := fun e => by subst e; revert hw; decide)
      unfold xTr
      rw [hgs]
      simp_all [zb, Int32.not_lt, Int32.not_le]
    · refine zw_iload_n dX0_isTrue_155 rfl ?_
      refine zw_iload dX0_isTrue_156 rfl ?_
      refine zw_callS (y' := zmX0_isKnown) dX0_isTrue_158 zlX0_29 zmX0_isKnown_ok (c_X0_isKnown _ _) rfl rfl (Nat.le_of_ble_eq_true rfl) ⟨Nat.le_of_ble_eq_true rfl, Nat.le_of_ble_eq_true rfl⟩ ⟨Nat.le_of_ble_eq_true rfl, Nat.le_of_ble_eq_true rfl⟩ ?_
      intro v158 s158 q158
      obtain ⟨rfl, z158⟩ := q158
      rw [z158]
      clear z158
      refine zw_ifeq (tgt := 168) dX0_isTrue_161 (by decide) (fun c161 => ?_) (fun c161 => ?_)
      · refine zw_iconst (x := 0) dX0_isTrue_168 rfl ?_
        refine zw_iret dX0_isTrue_169 rfl rfl ?_
        refine ⟨?_, rfl⟩
        (try have n0 : gs ≠ 0 := fun e => by subst e; revert hw; decide)
        (try have n1 : gs ≠ 1 := fun e => by subst e; revert hw; decide)
        (try have n2 : gs ≠ 2 := fun e => by subst e; revert hw; decide)
        (try have n3 : gs ≠ 3 := fun e => by subst e; revert hw; decide)
        (try have n4 : gs ≠ 4 := fun e => by subst e; revert hw; decide)
        unfold xTr
        rw [hgs]
        simp_all [zb, Int32.not_lt, Int32.not_le]
      · refine zw_iconst (x := 1) dX0_isTrue_164 rfl ?_
        refine zw_goto (tgt := 169) dX0_isTrue_165 (by decide) ?_
        refine zw_iret dX0_isTrue_169 rfl rfl ?_
        refine ⟨?_, rfl⟩
        (try have n0 : gs ≠ 0 := fun e => by subst e; revert hw; decide)
        (try have n1 : gs ≠ 1 := fun e => by subst e; revert hw; decide)
        (try have n2 : gs ≠ 2 := fun e => by subst e; revert hw; decide)
        (try have n3 : gs ≠ 3 := fun e => by subst e; revert hw; decide)
        (try have n4 : gs ≠ 4 := fun e => by subst e; revert hw; decide)
        unfold xTr
        rw [hgs]
        simp_all [zb, Int32.not_lt, Int32.not_le]
set_option maxHeartbeats 4000000 in
set_option maxRecDepth 100000 in
theorem lp_isTrueIn {l : Launch} {σ : zS} (h : xSh σ) {n f : Nat} (hn : xFz σ = nI n) (hn12 : n ≤ 12) (hf : f < n) (k : Int32) {Q : Option Value → zS → Prop} : ∀ (d i : Nat) (kn : Int32), i + d = f + 1 → Q (some (.int (zb (xIsK (xKn σ k d i kn) (nI f))))) σ → zAW l zmX0_isTrueIn { frames := 2, cells := 0, slots := 0, locals := 46 } 5 [(0, .ref 17), (1, .int (nI f)), (2, .int k), (3, .int kn), (4, .int (nI i))] [] σ 0 0 Q := by
  intro d
  induction d with
  | zero =>
    intro i kn hd hQ
    have hd : i = f + 1 := hd
    subst hd
    refine zw_iload dX0_isTrueIn_5 rfl ?_
    refine zw_iload_n dX0_isTrueIn_7 rfl ?_
    refine zw_icmpgt (tgt := 44) dX0_isTrueIn_8 (by decide) (fun c8 => ?_) (fun c8 => ?_)
    · refine zw_iload_n dX0_isTrueIn_44 rfl ?_
      refine zw_iload_n dX0_isTrueIn_45 rfl ?_
      refine zw_callS (y' := zmX0_isKnown) dX0_isTrueIn_46 zlX0_29 zmX0_isKnown_ok (c_X0_isKnown _ _) rfl rfl (Nat.le_of_ble_eq_true rfl) ⟨Nat.le_of_ble_eq_true rfl, Nat.le_of_ble_eq_true rfl⟩ ⟨Nat.le_of_ble_eq_true rfl, Nat.le_of_ble_eq_true rfl⟩ ?_
      intro v46 s46 q46
      obtain ⟨rfl, z46⟩ := q46
      rw [z46]
      clear z46
      refine zw_iret dX0_isTrueIn_49 rfl (znz _) ?_
      exact hQ
    · exact absurd (nI_lt (Nat.lt_succ_self f) (by omega)) c8
  | succ d ih =>
    intro i kn hd hQ
    rw [xKn] at hQ
    refine zw_iload dX0_isTrueIn_5 rfl ?_
    refine zw_iload_n dX0_isTrueIn_7 rfl ?_
    refine zw_icmpgt (tgt := 44) dX0_isTrueIn_8 (by decide) (fun c8 => ?_) (fun c8 => ?_)
    · exact absurd c8 (nI_nlt (show i ≤ f by omega) (by omega))
    · refine zw_iload dX0_isTrueIn_11 rfl ?_
      refine zw_aload_n dX0_isTrueIn_13 rfl ?_
      refine zw_getI dX0_isTrueIn_14 zfX0_21 rfl (xk_17 h) (by decide) ?_
      refine zw_icmpge (tgt := 44) dX0_isTrueIn_17 (by decide) (fun c17 => ?_) (fun c17 => ?_)
      · rw [show zF σ 0 3 17 = nI n from hn] at c17
        exact absurd c17 (nI_ge (show i < n by omega) (by omega))
      · refine zw_aload_n dX0_isTrueIn_20 rfl ?_
        refine zw_iload dX0_isTrueIn_21 rfl ?_
        refine zw_iload_n dX0_isTrueIn_23 rfl ?_
        refine zw_iload_n dX0_isTrueIn_24 rfl ?_
        refine zw_callV (y' := zmX0_isTrue) dX0_isTrueIn_25 zlX0_25 zmX0_isTrue_ok (xk_17 h) (by decide) rfl (c_X0_isTrue h (by omega) _ _) rfl rfl (Nat.le_of_ble_eq_true rfl) ⟨Nat.le_of_ble_eq_true rfl, Nat.le_of_ble_eq_true rfl⟩ ⟨Nat.le_of_ble_eq_true rfl, Nat.le_of_ble_eq_true rfl⟩ ?_
        intro v25 s25 q25
        obtain ⟨rfl, z25⟩ := q25
        rw [z25]
        clear z25
        refine zw_ifeq (tgt := 38) dX0_isTrueIn_28 (by decide) (fun c28 => ?_) (fun c28 => ?_)
        · refine zw_iinc dX0_isTrueIn_38 rfl (by decide) rfl ?_
          refine zw_goto (tgt := 5) dX0_isTrueIn_41 (by decide) ?_
          rw [zb_0] at c28
          rw [if_neg (by rw [c28]; decide)] at hQ
          refine zw_loc (lc' := [(0, .ref 17), (1, .int (nI f)), (2, .int k), (3, .int kn), (4, .int (nI i + 1))]) (zsub_cons rfl (zsub_cons rfl (zsub_cons rfl (zsub_cons rfl (zsub_cons rfl zsub_nil))))) ?_
          rw [nI_1]
          exact ih (i + 1) _ (by omega) hQ
        · refine zw_iload_n dX0_isTrueIn_31 rfl ?_
          refine zw_iconst (x := 1) dX0_isTrueIn_32 rfl ?_
          refine zw_iload dX0_isTrueIn_33 rfl ?_
          refine zw_ishl dX0_isTrueIn_35 ?_
          refine zw_ior dX0_isTrueIn_36 ?_
          refine zw_istore_n dX0_isTrueIn_37 (by decide) rfl ?_
          refine zw_iinc dX0_isTrueIn_38 rfl (by decide) rfl ?_
          refine zw_goto (tgt := 5) dX0_isTrueIn_41 (by decide) ?_
          rw [zb_1] at c28
          rw [if_pos c28] at hQ
          refine zw_loc (lc' := [(0, .ref 17), (1, .int (nI f)), (2, .int k), (3, .int (kn ||| (1 <<< (nI i &&& 31)))), (4, .int (nI i + 1))]) (zsub_cons rfl (zsub_cons rfl (zsub_cons rfl (zsub_cons rfl (zsub_cons rfl zsub_nil))))) ?_
          rw [nI_1]
          exact ih (i + 1) _ (by omega) hQ
set_option maxHeartbeats 4000000 in
set_option maxRecDepth 100000 in
theorem c_X0_isTrueIn {l : Launch} {σ : zS} (h : xSh σ) {n f : Nat} (hn : xFz σ = nI n) (hn12 : n ≤ 12) (hf : f < n) (k : Int32) : zAM l zmX0_isTrueIn 2 46 0 0 [.ref 17, .int (nI f), .int k] σ (fun v σ' => v = some (.int (zb (xHold σ f k))) ∧ σ' = σ) := by
  refine zAM.of (by decide +kernel) (Nat.le_of_ble_eq_true rfl) ?_
  refine zw_iconst (x := 0) dX0_isTrueIn_0 rfl ?_
  refine zw_istore_n dX0_isTrueIn_1 (by decide) rfl ?_
  refine zw_iconst (x := 0) dX0_isTrueIn_2 rfl ?_
  refine zw_istore dX0_isTrueIn_3 (by decide) rfl ?_
  refine zw_loc (lc' := [(0, .ref 17), (1, .int (nI f)), (2, .int k), (3, .int 0), (4, .int (nI 0))]) (zsub_cons rfl (zsub_cons rfl (zsub_cons rfl (zsub_cons rfl (zsub_cons rfl zsub_nil))))) ?_
  exact lp_isTrueIn h hn hn12 hf k (f + 1) 0 0 (Nat.zero_add _) ⟨rfl, rfl⟩
