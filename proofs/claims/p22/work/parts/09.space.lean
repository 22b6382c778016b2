/-! the state space's short methods -/
theorem zsplit3 (x : Int32) : x = 0 ∨ x = 1 ∨ x = 2 ∨ x = 3 ∨ (x.toInt < 0 ∨ 3 < x.toInt) := by
  have f : ∀ k : Int32, x.toInt = k.toInt → x = k := fun k h => Int32.toInt_inj.mp h
  have h0 := f 0
  have h1 := f 1
  have h2 := f 2
  have h3 := f 3
  rw [zt_0] at h0
  rw [zt_1] at h1
  rw [zt_2] at h2
  rw [zt_3] at h3
  by_cases a0 : x.toInt = 0
  · exact Or.inl (h0 a0)
  by_cases a1 : x.toInt = 1
  · exact Or.inr (Or.inl (h1 a1))
  by_cases a2 : x.toInt = 2
  · exact Or.inr (Or.inr (Or.inl (h2 a2)))
  by_cases a3 : x.toInt = 3
  · exact Or.inr (Or.inr (Or.inr (Or.inl (h3 a3))))
  · exact Or.inr (Or.inr (Or.inr (Or.inr (by omega))))
def xSr (k s : Int32) : Int32 := (k.toUInt32 >>> (s.toUInt32 &&& Int32.toUInt32 31)).toInt32
/-- a part of a packed step -/
def xPart (k w : Int32) : Int32 := if w = 0 then k &&& 511 else if w = 1 then xSr k 9 &&& 7 else if w = 2 then xSr k 12 &&& 15 else if w = 3 then (xSr k 16 &&& 7) - 1 else (xSr k 19 &&& 31) - 1
/-- the takers of a packed step -/
def xTk (k : Int32) : Int32 := (1 <<< (xPart k 1 &&& 31)) ||| (if 0 ≤ xPart k 3 then 1 <<< (xPart k 3 &&& 31) else 0)
/-- the state n laid: key, depth, parent, the parent's step, its slot, the count -/
def xNew (σ : zS) (k : Int32) (t p : Nat) (d : Int32) (n : Nat) : zS := zsF (zsI (zsI (zsI (zsI (zsI σ 9 n k) 10 n d) 11 n (nI p)) 12 n (zF σ 3 9 8 - zI σ 14 p)) 15 t (nI n)) 3 8 8 (nI (n + 1))
set_option maxHeartbeats 4000000 in
set_option maxRecDepth 100000 in
theorem c_X3_isExplored {l : Launch} {σ : zS} (h : xSh σ) : zAM l zmX3_isExplored 0 0 0 0 [.ref 8] σ (fun v σ' => v = some (.int (zb (decide (0 < xS σ)))) ∧ σ' = σ) := by
  refine zAM.of (by decide +kernel) (Nat.le_of_ble_eq_true rfl) ?_
  refine zw_aload_n dX3_isExplored_0 rfl ?_
  refine zw_getI dX3_isExplored_1 zfX3_36 rfl (xk_8 h) (by decide) ?_
  refine zw_ifle (tgt := 11) dX3_isExplored_4 (by decide) (fun c4 => ?_) (fun c4 => ?_)
  · refine zw_iconst (x := 0) dX3_isExplored_11 rfl ?_
    refine zw_iret dX3_isExplored_12 rfl rfl ?_
    unfold xS
    refine ⟨?_, rfl⟩
    first | rw [zb_t (by simp only [Int32.lt_iff_toInt_lt, Int32.le_iff_toInt_le, vp_in_iff, zt_0, zt_1, zt_2, zt_3, zt_4, zt_5, zt_6, zt_7, zt_8, zt_9, zt_10, zt_11, zt_12, zt_13, zt_14, zt_15, zt_16, zt_17, zt_18, zt_19, zt_20, zt_21, zt_22, zt_23, zt_24, zt_25, zt_26, zt_27, zt_28, zt_29, zt_30, zt_31, zt_63, zt_255, zt_400, zt_401, zt_397, zt_511, zt_512, zt_1024, zt_1023, zt_2048, zt_m1, zt_m2, zt_m9] at *; omega)] | rw [zb_f (by simp only [Int32.lt_iff_toInt_lt, Int32.le_iff_toInt_le, vp_in_iff, zt_0, zt_1, zt_2, zt_3, zt_4, zt_5, zt_6, zt_7, zt_8, zt_9, zt_10, zt_11, zt_12, zt_13, zt_14, zt_15, zt_16, zt_17, zt_18, zt_19, zt_20, zt_21, zt_22, zt_23, zt_24, zt_25, zt_26, zt_27, zt_28, zt_29, zt_30, zt_31, zt_63, zt_255, zt_400, zt_401, zt_397, zt_511, zt_512, zt_1024, zt_1023, zt_2048, zt_m1, zt_m2, zt_m9] at *; omega)]
  · refine zw_iconst (x := 1) dX3_isExplored_7 rfl ?_
    refine zw_goto (tgt := 12) dX3_isExplored_8 (by decide) ?_
    refine zw_iret dX3_isExplored_12 rfl rfl ?_
    unfold xS
    refine ⟨?_, rfl⟩
    first | rw [zb_t (by simp only [Int32.lt_iff_toInt_lt, Int32.le_iff_toInt_le, vp_in_iff, zt_0, zt_1, zt_2, zt_3, zt_4, zt_5, zt_6, zt_7, zt_8, zt_9, zt_10, zt_11, zt_12, zt_13, zt_14, zt_15, zt_16, zt_17, zt_18, zt_19, zt_20, zt_21, zt_22, zt_23, zt_24, zt_25, zt_26, zt_27, zt_28, zt_29, zt_30, zt_31, zt_63, zt_255, zt_400, zt_401, zt_397, zt_511, zt_512, zt_1024, zt_1023, zt_2048, zt_m1, zt_m2, zt_m9] at *; omega)] | rw [zb_f (by simp only [Int32.lt_iff_toInt_lt, Int32.le_iff_toInt_le, vp_in_iff, zt_0, zt_1, zt_2, zt_3, zt_4, zt_5, zt_6, zt_7, zt_8, zt_9, zt_10, zt_11, zt_12, zt_13, zt_14, zt_15, zt_16, zt_17, zt_18, zt_19, zt_20, zt_21, zt_22, zt_23, zt_24, zt_25, zt_26, zt_27, zt_28, zt_29, zt_30, zt_31, zt_63, zt_255, zt_400, zt_401, zt_397, zt_511, zt_512, zt_1024, zt_1023, zt_2048, zt_m1, zt_m2, zt_m9] at *; omega)]
set_option maxHeartbeats 4000000 in
set_option maxRecDepth 100000 in
theorem c_X3_hasState {l : Launch} {σ : zS} (h : xSh σ) (p : Int32) : zAM l zmX3_hasState 0 0 0 0 [.ref 8, .int p] σ (fun v σ' => v = some (.int (zb (decide (0 ≤ p ∧ p < xS σ)))) ∧ σ' = σ) := by
  refine zAM.of (by decide +kernel) (Nat.le_of_ble_eq_true rfl) ?_
  refine zw_iload_n dX3_hasState_0 rfl ?_
  refine zw_iflt (tgt := 16) dX3_hasState_1 (by decide) (fun c1 => ?_) (fun c1 => ?_)
  · refine zw_iconst (x := 0) dX3_hasState_16 rfl ?_
    refine zw_iret dX3_hasState_17 rfl rfl ?_
    unfold xS
    refine ⟨?_, rfl⟩
    first | rw [zb_t (by simp only [Int32.lt_iff_toInt_lt, Int32.le_iff_toInt_le, vp_in_iff, zt_0, zt_1, zt_2, zt_3, zt_4, zt_5, zt_6, zt_7, zt_8, zt_9, zt_10, zt_11, zt_12, zt_13, zt_14, zt_15, zt_16, zt_17, zt_18, zt_19, zt_20, zt_21, zt_22, zt_23, zt_24, zt_25, zt_26, zt_27, zt_28, zt_29, zt_30, zt_31, zt_63, zt_255, zt_400, zt_401, zt_397, zt_511, zt_512, zt_1024, zt_1023, zt_2048, zt_m1, zt_m2, zt_m9] at *; omega)] | rw [zb_f (by simp only [Int32.lt_iff_toInt_lt, Int32.le_iff_toInt_le, vp_in_iff, zt_0, zt_1, zt_2, zt_3, zt_4, zt_5, zt_6, zt_7, zt_8, zt_9, zt_10, zt_11, zt_12, zt_13, zt_14, zt_15, zt_16, zt_17, zt_18, zt_19, zt_20, zt_21, zt_22, zt_23, zt_24, zt_25, zt_26, zt_27, zt_28, zt_29, zt_30, zt_31, zt_63, zt_255, zt_400, zt_401, zt_397, zt_511, zt_512, zt_1024, zt_1023, zt_2048, zt_m1, zt_m2, zt_m9] at *; omega)]
  · refine zw_iload_n dX3_hasState_4 rfl ?_
    refine zw_aload_n dX3_hasState_5 rfl ?_
    refine zw_getI dX3_hasState_6 zfX3_36 rfl (xk_8 h) (by decide) ?_
    refine zw_icmpge (tgt := 16) dX3_hasState_9 (by decide) (fun c9 => ?_) (fun c9 => ?_)
    · refine zw_iconst (x := 0) dX3_hasState_16 rfl ?_
      refine zw_iret dX3_hasState_17 rfl rfl ?_
      unfold xS
      refine ⟨?_, rfl⟩
      first | rw [zb_t (by simp only [Int32.lt_iff_toInt_lt, Int32.le_iff_toInt_le, vp_in_iff, zt_0, zt_1, zt_2, zt_3, zt_4, zt_5, zt_6, zt_7, zt_8, zt_9, zt_10, zt_11, zt_12, zt_13, zt_14, zt_15, zt_16, zt_17, zt_18, zt_19, zt_20, zt_21, zt_22, zt_23, zt_24, zt_25, zt_26, zt_27, zt_28, zt_29, zt_30, zt_31, zt_63, zt_255, zt_400, zt_401, zt_397, zt_511, zt_512, zt_1024, zt_1023, zt_2048, zt_m1, zt_m2, zt_m9] at *; omega)] | rw [zb_f (by simp only [Int32.lt_iff_toInt_lt, Int32.le_iff_toInt_le, vp_in_iff, zt_0, zt_1, zt_2, zt_3, zt_4, zt_5, zt_6, zt_7, zt_8, zt_9, zt_10, zt_11, zt_12, zt_13, zt_14, zt_15, zt_16, zt_17, zt_18, zt_19, zt_20, zt_21, zt_22, zt_23, zt_24, zt_25, zt_26, zt_27, zt_28, zt_29, zt_30, zt_31, zt_63, zt_255, zt_400, zt_401, zt_397, zt_511, zt_512, zt_1024, zt_1023, zt_2048, zt_m1, zt_m2, zt_m9] at *; omega)]
    · refine zw_iconst (x := 1) dX3_hasState_12 rfl ?_
      refine zw_goto (tgt := 17) dX3_hasState_13 (by decide) ?_
      refine zw_iret dX3_hasState_17 rfl rfl ?_
      unfold xS
      refine ⟨?_, rfl⟩
      first | rw [zb_t (by simp only [Int32.lt_iff_toInt_lt, Int32.le_iff_toInt_le, vp_in_iff, zt_0, zt_1, zt_2, zt_3, zt_4, zt_5, zt_6, zt_7, zt_8, zt_9, zt_10, zt_11, zt_12, zt_13, zt_14, zt_15, zt_16, zt_17, zt_18, zt_19, zt_20, zt_21, zt_22, zt_23, zt_24, zt_25, zt_26, zt_27, zt_28, zt_29, zt_30, zt_31, zt_63, zt_255, zt_400, zt_401, zt_397, zt_511, zt_512, zt_1024, zt_1023, zt_2048, zt_m1, zt_m2, zt_m9] at *; omega)] | rw [zb_f (by simp only [Int32.lt_iff_toInt_lt, Int32.le_iff_toInt_le, vp_in_iff, zt_0, zt_1, zt_2, zt_3, zt_4, zt_5, zt_6, zt_7, zt_8, zt_9, zt_10, zt_11, zt_12, zt_13, zt_14, zt_15, zt_16, zt_17, zt_18, zt_19, zt_20, zt_21, zt_22, zt_23, zt_24, zt_25, zt_26, zt_27, zt_28, zt_29, zt_30, zt_31, zt_63, zt_255, zt_400, zt_401, zt_397, zt_511, zt_512, zt_1024, zt_1023, zt_2048, zt_m1, zt_m2, zt_m9] at *; omega)]
set_option maxHeartbeats 4000000 in
set_option maxRecDepth 100000 in
theorem c_X3_keyOf {l : Launch} {σ : zS} (h : xSh σ) {s : Nat} (hs : s < 400) : zAM l zmX3_keyOf 0 0 0 0 [.ref 8, .int (nI s)] σ (fun v σ' => v = some (.int (zI σ 9 s)) ∧ σ' = σ) := by
  refine zAM.of (by decide +kernel) (Nat.le_of_ble_eq_true rfl) ?_
  refine zw_aload_n dX3_keyOf_0 rfl ?_
  refine zw_getR dX3_keyOf_1 zfX3_11 rfl (xk_8 h) (by decide) (xg_3_0 h) ?_
  refine zw_iload_n dX3_keyOf_4 rfl ?_
  refine zw_iaload dX3_keyOf_5 (xk_9 h) (zin_of (xl_9 h) (vp_in_nI (by omega) (by omega))) ?_
  refine zw_iret dX3_keyOf_6 rfl rfl ?_
  rw [nI_clamp (by omega)]
  exact ⟨rfl, rfl⟩
set_option maxHeartbeats 4000000 in
set_option maxRecDepth 100000 in
theorem c_X3_depthOf {l : Launch} {σ : zS} (h : xSh σ) {s : Nat} (hs : s < 400) : zAM l zmX3_depthOf 0 0 0 0 [.ref 8, .int (nI s)] σ (fun v σ' => v = some (.int (zI σ 10 s)) ∧ σ' = σ) := by
  refine zAM.of (by decide +kernel) (Nat.le_of_ble_eq_true rfl) ?_
  refine zw_aload_n dX3_depthOf_0 rfl ?_
  refine zw_getR dX3_depthOf_1 zfX3_15 rfl (xk_8 h) (by decide) (xg_3_1 h) ?_
  refine zw_iload_n dX3_depthOf_4 rfl ?_
  refine zw_iaload dX3_depthOf_5 (xk_10 h) (zin_of (xl_10 h) (vp_in_nI (by omega) (by omega))) ?_
  refine zw_iret dX3_depthOf_6 rfl rfl ?_
  rw [nI_clamp (by omega)]
  exact ⟨rfl, rfl⟩
set_option maxHeartbeats 4000000 in
set_option maxRecDepth 100000 in
theorem c_X3_parentOf {l : Launch} {σ : zS} (h : xSh σ) {s : Nat} (hs : s < 400) : zAM l zmX3_parentOf 0 0 0 0 [.ref 8, .int (nI s)] σ (fun v σ' => v = some (.int (zI σ 11 s)) ∧ σ' = σ) := by
  refine zAM.of (by decide +kernel) (Nat.le_of_ble_eq_true rfl) ?_
  refine zw_aload_n dX3_parentOf_0 rfl ?_
  refine zw_getR dX3_parentOf_1 zfX3_18 rfl (xk_8 h) (by decide) (xg_3_2 h) ?_
  refine zw_iload_n dX3_parentOf_4 rfl ?_
  refine zw_iaload dX3_parentOf_5 (xk_11 h) (zin_of (xl_11 h) (vp_in_nI (by omega) (by omega))) ?_
  refine zw_iret dX3_parentOf_6 rfl rfl ?_
  rw [nI_clamp (by omega)]
  exact ⟨rfl, rfl⟩
set_option maxHeartbeats 4000000 in
set_option maxRecDepth 100000 in
theorem c_X3_parentStepOf {l : Launch} {σ : zS} (h : xSh σ) {s : Nat} (hs : s < 400) : zAM l zmX3_parentStepOf 0 0 0 0 [.ref 8, .int (nI s)] σ (fun v σ' => v = some (.int (zI σ 12 s)) ∧ σ' = σ) := by
  refine zAM.of (by decide +kernel) (Nat.le_of_ble_eq_true rfl) ?_
  refine zw_aload_n dX3_parentStepOf_0 rfl ?_
  refine zw_getR dX3_parentStepOf_1 zfX3_21 rfl (xk_8 h) (by decide) (xg_3_3 h) ?_
  refine zw_iload_n dX3_parentStepOf_4 rfl ?_
  refine zw_iaload dX3_parentStepOf_5 (xk_12 h) (zin_of (xl_12 h) (vp_in_nI (by omega) (by omega))) ?_
  refine zw_iret dX3_parentStepOf_6 rfl rfl ?_
  rw [nI_clamp (by omega)]
  exact ⟨rfl, rfl⟩
set_option maxHeartbeats 4000000 in
set_option maxRecDepth 100000 in
theorem c_X3_takersIn {l : Launch} {σ : zS} (h : xSh σ) {s : Nat} (hs : s < 400) : zAM l zmX3_takersIn 0 0 0 0 [.ref 8, .int (nI s)] σ (fun v σ' => v = some (.int (zI σ 13 s)) ∧ σ' = σ) := by
  refine zAM.of (by decide +kernel) (Nat.le_of_ble_eq_true rfl) ?_
  refine zw_aload_n dX3_takersIn_0 rfl ?_
  refine zw_getR dX3_takersIn_1 zfX3_24 rfl (xk_8 h) (by decide) (xg_3_4 h) ?_
  refine zw_iload_n dX3_takersIn_4 rfl ?_
  refine zw_iaload dX3_takersIn_5 (xk_13 h) (zin_of (xl_13 h) (vp_in_nI (by omega) (by omega))) ?_
  refine zw_iret dX3_takersIn_6 rfl rfl ?_
  rw [nI_clamp (by omega)]
  exact ⟨rfl, rfl⟩
set_option maxHeartbeats 4000000 in
set_option maxRecDepth 100000 in
theorem c_X3_stepsOf {l : Launch} {σ : zS} (h : xSh σ) {s : Nat} (hs : s < 400) : zAM l zmX3_stepsOf 0 0 0 0 [.ref 8, .int (nI s)] σ (fun v σ' => v = some (.int (zI σ 14 (s + 1) - zI σ 14 s)) ∧ σ' = σ) := by
  refine zAM.of (by decide +kernel) (Nat.le_of_ble_eq_true rfl) ?_
  refine zw_aload_n dX3_stepsOf_0 rfl ?_
  refine zw_getR dX3_stepsOf_1 zfX3_27 rfl (xk_8 h) (by decide) (xg_3_5 h) ?_
  refine zw_iload_n dX3_stepsOf_4 rfl ?_
  refine zw_iconst (x := 1) dX3_stepsOf_5 rfl ?_
  refine zw_iadd dX3_stepsOf_6 ?_
  refine zw_iaload dX3_stepsOf_7 (xk_14 h) (zin_of (xl_14 h) (by rw [nI_1]; exact vp_in_nI (by omega) (by omega))) ?_
  refine zw_aload_n dX3_stepsOf_8 rfl ?_
  refine zw_getR dX3_stepsOf_9 zfX3_27 rfl (xk_8 h) (by decide) (xg_3_5 h) ?_
  refine zw_iload_n dX3_stepsOf_12 rfl ?_
  refine zw_iaload dX3_stepsOf_13 (xk_14 h) (zin_of (xl_14 h) (vp_in_nI (by omega) (by omega))) ?_
  refine zw_isub dX3_stepsOf_14 ?_
  refine zw_iret dX3_stepsOf_15 rfl rfl ?_
  rw [nI_1, nI_clamp (by omega), nI_clamp (by omega)]
  exact ⟨rfl, rfl⟩
set_option maxHeartbeats 4000000 in
set_option maxRecDepth 100000 in
theorem c_X3_packedStep {l : Launch} {σ : zS} (h : xSh σ) {pk : Nat} (hpk : xPk σ pk) {s i f : Nat} (hs : s < 400) (hf : zI σ 14 s = nI f) (hi : f + i < zL σ pk) (hl : zL σ pk < 2 ^ 31) : zAM l zmX3_packedStep 0 0 0 0 [.ref 8, .int (nI s), .int (nI i)] σ (fun v σ' => v = some (.int (zI σ pk (f + i))) ∧ σ' = σ) := by
  refine zAM.of (by decide +kernel) (Nat.le_of_ble_eq_true rfl) ?_
  refine zw_aload_n dX3_packedStep_0 rfl ?_
  refine zw_getR dX3_packedStep_1 zfX3_33 rfl (xk_8 h) (by decide) hpk.1 ?_
  refine zw_aload_n dX3_packedStep_4 rfl ?_
  refine zw_getR dX3_packedStep_5 zfX3_27 rfl (xk_8 h) (by decide) (xg_3_5 h) ?_
  refine zw_iload_n dX3_packedStep_8 rfl ?_
  refine zw_iaload dX3_packedStep_9 (xk_14 h) (zin_of (xl_14 h) (vp_in_nI (by omega) (by omega))) ?_
  refine zw_iload_n dX3_packedStep_10 rfl ?_
  refine zw_iadd dX3_packedStep_11 ?_
  refine zw_iaload dX3_packedStep_12 (hpk.2.1) (by rw [nI_clamp (by omega), hf, nI_add]; exact vp_in_nI hi hl) ?_
  refine zw_iret dX3_packedStep_13 rfl rfl ?_
  rw [nI_clamp (n := s) (by omega), hf, nI_add, nI_clamp (by omega)]
  exact ⟨rfl, rfl⟩
set_option maxHeartbeats 4000000 in
set_option maxRecDepth 100000 in
theorem c_X3_partOf {l : Launch} {σ : zS} (k w : Int32) : zAM l zmX3_partOf 0 0 0 0 [.int k, .int w] σ (fun v σ' => v = some (.int (xPart k w)) ∧ σ' = σ) := by
  refine zAM.of (by decide +kernel) (Nat.le_of_ble_eq_true rfl) ?_
  refine zw_iload_n dX3_partOf_0 rfl ?_
  rcases zsplit3 w with rfl | rfl | rfl | rfl | hw
  · refine zw_tableIn (off := 31) (tgt := 32) dX3_partOf_1 (by decide) (by decide) (by decide) (by decide) ?_
    refine zw_iload_n dX3_partOf_32 rfl ?_
    refine zw_sipush (x := 511) dX3_partOf_33 rfl ?_
    refine zw_iand dX3_partOf_36 ?_
    refine zw_iret dX3_partOf_37 rfl rfl ?_
    refine ⟨?_, rfl⟩
    first
      | rfl
      | (unfold xPart; rw [if_neg (fun e => by subst e; revert hw; decide), if_neg (fun e => by subst e; revert hw; decide), if_neg (fun e => by subst e; revert hw; decide), if_neg (fun e => by subst e; revert hw; decide)]; rfl)
  · refine zw_tableIn (off := 37) (tgt := 38) dX3_partOf_1 (by decide) (by decide) (by decide) (by decide) ?_
    refine zw_iload_n dX3_partOf_38 rfl ?_
    refine zw_bipush (x := 9) dX3_partOf_39 rfl ?_
    refine zw_iushr dX3_partOf_41 ?_
    refine zw_bipush (x := 7) dX3_partOf_42 rfl ?_
    refine zw_iand dX3_partOf_44 ?_
    refine zw_iret dX3_partOf_45 rfl rfl ?_
    refine ⟨?_, rfl⟩
    first
      | rfl
      | (unfold xPart; rw [if_neg (fun e => by subst e; revert hw; decide), if_neg (fun e => by subst e; revert hw; decide), if_neg (fun e => by subst e; revert hw; decide), if_neg (fun e => by subst e; revert hw; decide)]; rfl)
  · refine zw_tableIn (off := 45) (tgt := 46) dX3_partOf_1 (by decide) (by decide) (by decide) (by decide) ?_
    refine zw_iload_n dX3_partOf_46 rfl ?_
    refine zw_bipush (x := 12) dX3_partOf_47 rfl ?_
    refine zw_iushr dX3_partOf_49 ?_
    refine zw_bipush (x := 15) dX3_partOf_50 rfl ?_
    refine zw_iand dX3_partOf_52 ?_
    refine zw_iret dX3_partOf_53 rfl rfl ?_
    refine ⟨?_, rfl⟩
    first
      | rfl
      | (unfold xPart; rw [if_neg (fun e => by subst e; revert hw; decide), if_neg (fun e => by subst e; revert hw; decide), if_neg (fun e => by subst e; revert hw; decide), if_neg (fun e => by subst e; revert hw; decide)]; rfl)
  · refine zw_tableIn (off := 53) (tgt := 54) dX3_partOf_1 (by decide) (by decide) (by decide) (by decide) ?_
    refine zw_iload_n dX3_partOf_54 rfl ?_
    refine zw_bipush (x := 16) dX3_partOf_55 rfl ?_
    refine zw_iushr dX3_partOf_57 ?_
    refine zw_bipush (x := 7) dX3_partOf_58 rfl ?_
    refine zw_iand dX3_partOf_60 ?_
    refine zw_iconst (x := 1) dX3_partOf_61 rfl ?_
    refine zw_isub dX3_partOf_62 ?_
    refine zw_iret dX3_partOf_63 rfl rfl ?_
    refine ⟨?_, rfl⟩
    first
      | rfl
      | (unfold xPart; rw [if_neg (fun e => by subst e; revert hw; decide), if_neg (fun e => by subst e; revert hw; decide), if_neg (fun e => by subst e; revert hw; decide), if_neg (fun e => by subst e; revert hw; decide)]; rfl)
  · refine zw_tableOut (tgt := 64) dX3_partOf_1 hw (by decide) ?_
    refine zw_iload_n dX3_partOf_64 rfl ?_
    refine zw_bipush (x := 19) dX3_partOf_65 rfl ?_
    refine zw_iushr dX3_partOf_67 ?_
    refine zw_bipush (x := 31) dX3_partOf_68 rfl ?_
    refine zw_iand dX3_partOf_70 ?_
    refine zw_iconst (x := 1) dX3_partOf_71 rfl ?_
    refine zw_isub dX3_partOf_72 ?_
    refine zw_iret dX3_partOf_73 rfl rfl ?_
    refine ⟨?_, rfl⟩
    first
      | rfl
      | (unfold xPart; rw [if_neg (fun e => by subst e; revert hw; decide), if_neg (fun e => by subst e; revert hw; decide), if_neg (fun e => by subst e; revert hw; decide), if_neg (fun e => by subst e; revert hw; decide)]; rfl)
set_option maxHeartbeats 4000000 in
set_option maxRecDepth 100000 in
theorem c_X3_takersOf {l : Launch} {σ : zS} (k : Int32) : zAM l zmX3_takersOf 1 21 0 0 [.int k] σ (fun v σ' => v = some (.int (xTk k)) ∧ σ' = σ) := by
  refine zAM.of (by decide +kernel) (Nat.le_of_ble_eq_true rfl) ?_
  refine zw_iload_n dX3_takersOf_0 rfl ?_
  refine zw_iconst (x := 3) dX3_takersOf_1 rfl ?_
  refine zw_callS (y' := zmX3_partOf) dX3_takersOf_2 zlX3_40 zmX3_partOf_ok (c_X3_partOf _ _) rfl rfl (Nat.le_of_ble_eq_true rfl) ⟨Nat.le_of_ble_eq_true rfl, Nat.le_of_ble_eq_true rfl⟩ ⟨Nat.le_of_ble_eq_true rfl, Nat.le_of_ble_eq_true rfl⟩ ?_
  intro v2 s2 q2
  obtain ⟨rfl, rfl⟩ := q2
  refine zw_istore_n dX3_takersOf_5 (by decide) rfl ?_
  refine zw_iconst (x := 1) dX3_takersOf_6 rfl ?_
  refine zw_iload_n dX3_takersOf_7 rfl ?_
  refine zw_iconst (x := 1) dX3_takersOf_8 rfl ?_
  refine zw_callS (y' := zmX3_partOf) dX3_takersOf_9 zlX3_40 zmX3_partOf_ok (c_X3_partOf _ _) rfl rfl (Nat.le_of_ble_eq_true rfl) ⟨Nat.le_of_ble_eq_true rfl, Nat.le_of_ble_eq_true rfl⟩ ⟨Nat.le_of_ble_eq_true rfl, Nat.le_of_ble_eq_true rfl⟩ ?_
  intro v9 s9 q9
  obtain ⟨rfl, rfl⟩ := q9
  refine zw_ishl dX3_takersOf_12 ?_
  refine zw_iload_n dX3_takersOf_13 rfl ?_
  refine zw_ifge (tgt := 21) dX3_takersOf_14 (by decide) (fun c14 => ?_) (fun c14 => ?_)
  · refine zw_iconst (x := 1) dX3_takersOf_21 rfl ?_
    refine zw_iload_n dX3_takersOf_22 rfl ?_
    refine zw_ishl dX3_takersOf_23 ?_
    refine zw_ior dX3_takersOf_24 ?_
    refine zw_iret dX3_takersOf_25 rfl rfl ?_
    refine ⟨?_, rfl⟩
    unfold xTk
    first
      | rw [if_pos c14]
      | rw [if_neg c14]
  · refine zw_iconst (x := 0) dX3_takersOf_17 rfl ?_
    refine zw_goto (tgt := 24) dX3_takersOf_18 (by decide) ?_
    refine zw_ior dX3_takersOf_24 ?_
    refine zw_iret dX3_takersOf_25 rfl rfl ?_
    refine ⟨?_, rfl⟩
    unfold xTk
    first
      | rw [if_pos c14]
      | rw [if_neg c14]
set_option maxHeartbeats 4000000 in
set_option maxRecDepth 100000 in
theorem c_X3_forget {l : Launch} {σ : zS} (h : xSh σ) : zAM l zmX3_forget 0 0 0 0 [.ref 8] σ (fun v σ' => v = none ∧ σ' = zsF (zsF (zsF σ 3 8 8 0) 3 9 8 0) 3 10 8 0) := by
  refine zAM.of (by decide +kernel) (Nat.le_of_ble_eq_true rfl) ?_
  refine zw_aload_n dX3_forget_0 rfl ?_
  refine zw_iconst (x := 0) dX3_forget_1 rfl ?_
  refine zw_putI dX3_forget_2 zfX3_36 rfl rfl ⟨rfl, rfl⟩ (xk_8 h) (by decide) ?_
  refine zw_aload_n dX3_forget_5 rfl ?_
  refine zw_iconst (x := 0) dX3_forget_6 rfl ?_
  refine zw_putI dX3_forget_7 zfX3_44 rfl rfl ⟨rfl, rfl⟩ (xk_8 h) (by decide) ?_
  refine zw_aload_n dX3_forget_10 rfl ?_
  refine zw_iconst (x := 0) dX3_forget_11 rfl ?_
  refine zw_putI dX3_forget_12 zfX3_47 rfl rfl ⟨rfl, rfl⟩ (xk_8 h) (by decide) ?_
  refine zw_vret dX3_forget_15 rfl ?_
  exact ⟨rfl, rfl⟩
set_option maxHeartbeats 4000000 in
set_option maxRecDepth 100000 in
theorem c_X3_newState {l : Launch} {σ : zS} (h : xSh σ) {n t p f : Nat} (hn : xS σ = nI n) (hn4 : n < 400) (ht : t < 1024) (hp : p < 400) (k d : Int32) : zAM l zmX3_newState 0 0 0 0 [.ref 8, .int k, .int (nI t), .int (nI p), .int d] σ (fun v σ' => v = none ∧ σ' = xNew σ k t p d n) := by
  refine zAM.of (by decide +kernel) (Nat.le_of_ble_eq_true rfl) ?_
  refine zw_aload_n dX3_newState_0 rfl ?_
  refine zw_getR dX3_newState_1 zfX3_11 rfl (xk_8 h) (by decide) (xg_3_0 h) ?_
  refine zw_aload_n dX3_newState_4 rfl ?_
  refine zw_getI dX3_newState_5 zfX3_36 rfl (xk_8 h) (by decide) ?_
  refine zw_iload_n dX3_newState_8 rfl ?_
  refine zw_iastore dX3_newState_9 (xk_9 h) (by decide) (zin_of (xl_9 h) (by rw [show zF σ 3 8 8 = nI n from hn]; exact vp_in_nI (by omega) (by omega))) ?_
  refine zw_aload_n dX3_newState_10 rfl ?_
  refine zw_getR dX3_newState_11 zfX3_15 rfl (xk_8 h) (by decide) (xg_3_1 h) ?_
  refine zw_aload_n dX3_newState_14 rfl ?_
  refine zw_getI dX3_newState_15 zfX3_36 rfl (xk_8 h) (by decide) ?_
  refine zw_iload dX3_newState_18 rfl ?_
  refine zw_iastore dX3_newState_20 (xk_10 h) (by decide) (zin_of (xl_10 h) (by rw [show zF (zsI σ 9 (zF σ 3 8 8).toNatClampNeg k) 3 8 8 = nI n from hn]; exact vp_in_nI (by omega) (by omega))) ?_
  refine zw_aload_n dX3_newState_21 rfl ?_
  refine zw_getR dX3_newState_22 zfX3_18 rfl (xk_8 h) (by decide) (xg_3_2 h) ?_
  refine zw_aload_n dX3_newState_25 rfl ?_
  refine zw_getI dX3_newState_26 zfX3_36 rfl (xk_8 h) (by decide) ?_
  refine zw_iload_n dX3_newState_29 rfl ?_
  refine zw_iastore dX3_newState_30 (xk_11 h) (by decide) (zin_of (xl_11 h) (by rw [show zF (zsI (zsI σ 9 (zF σ 3 8 8).toNatClampNeg k) 10 _ d) 3 8 8 = nI n from hn]; exact vp_in_nI (by omega) (by omega))) ?_
  refine zw_aload_n dX3_newState_31 rfl ?_
  refine zw_getR dX3_newState_32 zfX3_21 rfl (xk_8 h) (by decide) (xg_3_3 h) ?_
  refine zw_aload_n dX3_newState_35 rfl ?_
  refine zw_getI dX3_newState_36 zfX3_36 rfl (xk_8 h) (by decide) ?_
  refine zw_aload_n dX3_newState_39 rfl ?_
  refine zw_getI dX3_newState_40 zfX3_44 rfl (xk_8 h) (by decide) ?_
  refine zw_aload_n dX3_newState_43 rfl ?_
  refine zw_getR dX3_newState_44 zfX3_27 rfl (xk_8 h) (by decide) (xg_3_5 h) ?_
  refine zw_iload_n dX3_newState_47 rfl ?_
  refine zw_iaload dX3_newState_48 (xk_14 h) (zin_of (xl_14 h) (vp_in_nI (by omega) (by omega))) ?_
  refine zw_isub dX3_newState_49 ?_
  refine zw_iastore dX3_newState_50 (xk_12 h) (by decide) (zin_of (xl_12 h) (by rw [show zF (zsI (zsI (zsI σ 9 (zF σ 3 8 8).toNatClampNeg k) 10 _ d) 11 _ _) 3 8 8 = nI n from hn]; exact vp_in_nI (by omega) (by omega))) ?_
  refine zw_aload_n dX3_newState_51 rfl ?_
  refine zw_getR dX3_newState_52 zfX3_30 rfl (xk_8 h) (by decide) (xg_3_6 h) ?_
  refine zw_iload_n dX3_newState_55 rfl ?_
  refine zw_aload_n dX3_newState_56 rfl ?_
  refine zw_getI dX3_newState_57 zfX3_36 rfl (xk_8 h) (by decide) ?_
  refine zw_iastore dX3_newState_60 (xk_15 h) (by decide) (zin_of (xl_15 h) (vp_in_nI (by omega) (by omega))) ?_
  refine zw_aload_n dX3_newState_61 rfl ?_
  refine zw_dup dX3_newState_62 rfl ?_
  refine zw_getI dX3_newState_63 zfX3_36 rfl (xk_8 h) (by decide) ?_
  refine zw_iconst (x := 1) dX3_newState_66 rfl ?_
  refine zw_iadd dX3_newState_67 ?_
  refine zw_putI dX3_newState_68 zfX3_36 rfl rfl ⟨rfl, rfl⟩ (xk_8 h) (by decide) ?_
  refine zw_vret dX3_newState_71 rfl ?_
  refine ⟨rfl, ?_⟩
  unfold xNew
  simp only [zF_zsI, nI_clamp (show t < 2 ^ 31 by omega), nI_clamp (show p < 2 ^ 31 by omega), show zF σ 3 8 8 = nI n from hn, nI_clamp (show n < 2 ^ 31 by omega), nI_1, zI_zsI]
  rfl
