/-! the checker's short methods -/
theorem zt_0 : (0 : Int32).toInt = 0 := rfl
theorem zt_1 : (1 : Int32).toInt = 1 := rfl
theorem zt_2 : (2 : Int32).toInt = 2 := rfl
theorem zt_3 : (3 : Int32).toInt = 3 := rfl
theorem zt_4 : (4 : Int32).toInt = 4 := rfl
theorem zt_5 : (5 : Int32).toInt = 5 := rfl
theorem zt_6 : (6 : Int32).toInt = 6 := rfl
theorem zt_7 : (7 : Int32).toInt = 7 := rfl
theorem zt_8 : (8 : Int32).toInt = 8 := rfl
theorem zt_9 : (9 : Int32).toInt = 9 := rfl
theorem zt_10 : (10 : Int32).toInt = 10 := rfl
theorem zt_11 : (11 : Int32).toInt = 11 := rfl
theorem zt_12 : (12 : Int32).toInt = 12 := rfl
theorem zt_13 : (13 : Int32).toInt = 13 := rfl
theorem zt_14 : (14 : Int32).toInt = 14 := rfl
theorem zt_15 : (15 : Int32).toInt = 15 := rfl
theorem zt_16 : (16 : Int32).toInt = 16 := rfl
theorem zt_17 : (17 : Int32).toInt = 17 := rfl
theorem zt_18 : (18 : Int32).toInt = 18 := rfl
theorem zt_19 : (19 : Int32).toInt = 19 := rfl
theorem zt_20 : (20 : Int32).toInt = 20 := rfl
theorem zt_21 : (21 : Int32).toInt = 21 := rfl
theorem zt_22 : (22 : Int32).toInt = 22 := rfl
theorem zt_23 : (23 : Int32).toInt = 23 := rfl
theorem zt_24 : (24 : Int32).toInt = 24 := rfl
theorem zt_25 : (25 : Int32).toInt = 25 := rfl
theorem zt_26 : (26 : Int32).toInt = 26 := rfl
theorem zt_27 : (27 : Int32).toInt = 27 := rfl
theorem zt_28 : (28 : Int32).toInt = 28 := rfl
theorem zt_29 : (29 : Int32).toInt = 29 := rfl
theorem zt_30 : (30 : Int32).toInt = 30 := rfl
theorem zt_31 : (31 : Int32).toInt = 31 := rfl
theorem zt_63 : (63 : Int32).toInt = 63 := rfl
theorem zt_255 : (255 : Int32).toInt = 255 := rfl
theorem zt_400 : (400 : Int32).toInt = 400 := rfl
theorem zt_401 : (401 : Int32).toInt = 401 := rfl
theorem zt_397 : (397 : Int32).toInt = 397 := rfl
theorem zt_511 : (511 : Int32).toInt = 511 := rfl
theorem zt_512 : (512 : Int32).toInt = 512 := rfl
theorem zt_1024 : (1024 : Int32).toInt = 1024 := rfl
theorem zt_1023 : (1023 : Int32).toInt = 1023 := rfl
theorem zt_2048 : (2048 : Int32).toInt = 2048 := rfl
theorem zt_m1 : (-1 : Int32).toInt = -1 := rfl
theorem zt_m2 : (-2 : Int32).toInt = -2 := rfl
theorem zt_m9 : (-9 : Int32).toInt = -9 := rfl
theorem zb_t {c : Prop} [Decidable c] (h : c) : zb (decide c) = 1 := by simp [zb, h]
theorem zb_f {c : Prop} [Decidable c] (h : ¬ c) : zb (decide c) = 0 := by simp [zb, h]
theorem zb_0 {b : Bool} : zb b = 0 ↔ b = false := by cases b <;> simp [zb]
theorem zb_1 {b : Bool} : ¬ zb b = 0 ↔ b = true := by cases b <;> simp [zb]
theorem nI_both {x : Int32} {P i : Nat} (hP : x = nI P) (h : P ≤ 5) (hi : i < P) : 0 ≤ nI i ∧ nI i < x := ⟨nI_pos' (by omega), by rw [hP]; exact nI_lt hi (by omega)⟩
theorem nI_find {P i m mc : Nat} (hP5 : P ≤ 5) (hi : i < P) (hm : m < mc) (hm6 : mc ≤ 16) : nI i * 16 + nI m = nI (16 * i + m) := by
  rw [show (16 : Int32) = nI 16 from rfl, pk_mul, nI_add, Nat.mul_comm]
theorem i32_sub1 (x : Int32) : x + 1 - 1 = x := by
  apply Int32.toBitVec_inj.mp
  simp
theorem zsplit4 (x : Int32) : x = 1 ∨ x = 2 ∨ x = 3 ∨ x = 4 ∨ (x.toInt < 1 ∨ 4 < x.toInt) := by
  have f : ∀ k : Int32, x.toInt = k.toInt → x = k := fun k h => Int32.toInt_inj.mp h
  have h1 := f 1
  have h2 := f 2
  have h3 := f 3
  have h4 := f 4
  rw [zt_1] at h1
  rw [zt_2] at h2
  rw [zt_3] at h3
  rw [zt_4] at h4
  by_cases a1 : x.toInt = 1
  · exact Or.inl (h1 a1)
  by_cases a2 : x.toInt = 2
  · exact Or.inr (Or.inl (h2 a2))
  by_cases a3 : x.toInt = 3
  · exact Or.inr (Or.inr (Or.inl (h3 a3)))
  by_cases a4 : x.toInt = 4
  · exact Or.inr (Or.inr (Or.inr (Or.inl (h4 a4))))
  · exact Or.inr (Or.inr (Or.inr (Or.inr (by omega))))
def xLoc (k p : Int32) : Int32 := (k.toUInt32 >>> ((3 * p).toUInt32 &&& Int32.toUInt32 31)).toInt32 &&& 7
def xVal (k v : Int32) : Int32 := (k.toUInt32 >>> ((15 + 4 * v).toUInt32 &&& Int32.toUInt32 31)).toInt32 &&& 15
def xWLoc (k p x : Int32) : Int32 := (k &&& ((7 <<< ((3 * p) &&& 31)) ^^^ (-1))) ||| (x <<< ((3 * p) &&& 31))
def xWVal (k v x : Int32) : Int32 := (k &&& ((15 <<< ((15 + 4 * v) &&& 31)) ^^^ (-1))) ||| (x <<< ((15 + 4 * v) &&& 31))
/-- the guard of the move a at a key -/
def xGA (σ : zS) (a : Nat) (k : Int32) : Bool :=
  if zF σ 1 5 a = 1 then decide (xVal k (zF σ 1 6 a) = zF σ 1 7 a) else if zF σ 1 5 a = 2 then decide (¬ xVal k (zF σ 1 6 a) = zF σ 1 7 a) else if zF σ 1 5 a = 3 then decide (xVal k (zF σ 1 6 a) < zF σ 1 7 a) else if zF σ 1 5 a = 4 then decide (zF σ 1 7 a < xVal k (zF σ 1 6 a)) else true
/-- the key behind the deed of the move a; -1 if it leads out -/
def xAD (σ : zS) (a : Nat) (k : Int32) : Int32 :=
  if zF σ 1 8 a = 0 then k else if zF σ 1 8 a = 1 then (if 0 ≤ zF σ 1 10 a ∧ zF σ 1 10 a ≤ zF σ 1 11 a then xWVal k (zF σ 1 9 a) (zF σ 1 10 a) else -1)
  else (if 0 ≤ xVal k (zF σ 1 9 a) + zF σ 1 10 a ∧ xVal k (zF σ 1 9 a) + zF σ 1 10 a ≤ zF σ 1 11 a then xWVal k (zF σ 1 9 a) (xVal k (zF σ 1 9 a) + zF σ 1 10 a) else -1)
def xAG (σ : zS) (a : Nat) (k : Int32) : Int32 := xWLoc k (zF σ 1 0 a) (zF σ 1 3 a)
def xOpen (σ : zS) (a : Nat) (k : Int32) : Bool := decide (xLoc k (zF σ 1 0 a) = zF σ 1 2 a) && (xGA σ a k && decide (0 ≤ xAD σ a k))
set_option maxHeartbeats 4000000 in
set_option maxRecDepth 100000 in
theorem c_X2_hasProcess {l : Launch} {σ : zS} (h : xSh σ) (p : Int32) : zAM l zmX2_hasProcess 0 0 0 0 [.ref 2, .int p] σ (fun v σ' => v = some (.int (zb (decide (0 ≤ p ∧ p < xP σ)))) ∧ σ' = σ) := by
  refine zAM.of (by decide +kernel) (Nat.le_of_ble_eq_true rfl) ?_
  refine zw_iload_n dX2_hasProcess_0 rfl ?_
  refine zw_iflt (tgt := 16) dX2_hasProcess_1 (by decide) (fun c1 => ?_) (fun c1 => ?_)
  · refine zw_iconst (x := 0) dX2_hasProcess_16 rfl ?_
    refine zw_iret dX2_hasProcess_17 rfl rfl ?_
    unfold xP
    refine ⟨?_, rfl⟩
    first | rw [zb_t (by simp only [Int32.lt_iff_toInt_lt, Int32.le_iff_toInt_le, vp_in_iff, zt_0, zt_1, zt_2, zt_3, zt_4, zt_5, zt_6, zt_7, zt_8, zt_9, zt_10, zt_11, zt_12, zt_13, zt_14, zt_15, zt_16, zt_17, zt_18, zt_19, zt_20, zt_21, zt_22, zt_23, zt_24, zt_25, zt_26, zt_27, zt_28, zt_29, zt_30, zt_31, zt_63, zt_255, zt_400, zt_401, zt_397, zt_511, zt_512, zt_1024, zt_1023, zt_2048, zt_m1, zt_m2, zt_m9] at *; omega)] | rw [zb_f (by simp only [Int32.lt_iff_toInt_lt, Int32.le_iff_toInt_le, vp_in_iff, zt_0, zt_1, zt_2, zt_3, zt_4, zt_5, zt_6, zt_7, zt_8, zt_9, zt_10, zt_11, zt_12, zt_13, zt_14, zt_15, zt_16, zt_17, zt_18, zt_19, zt_20, zt_21, zt_22, zt_23, zt_24, zt_25, zt_26, zt_27, zt_28, zt_29, zt_30, zt_31, zt_63, zt_255, zt_400, zt_401, zt_397, zt_511, zt_512, zt_1024, zt_1023, zt_2048, zt_m1, zt_m2, zt_m9] at *; omega)]
  · refine zw_iload_n dX2_hasProcess_4 rfl ?_
    refine zw_aload_n dX2_hasProcess_5 rfl ?_
    refine zw_getI dX2_hasProcess_6 zfX2_30 rfl (xk_2 h) (by decide) ?_
    refine zw_icmpge (tgt := 16) dX2_hasProcess_9 (by decide) (fun c9 => ?_) (fun c9 => ?_)
    · refine zw_iconst (x := 0) dX2_hasProcess_16 rfl ?_
      refine zw_iret dX2_hasProcess_17 rfl rfl ?_
      unfold xP
      refine ⟨?_, rfl⟩
      first | rw [zb_t (by simp only [Int32.lt_iff_toInt_lt, Int32.le_iff_toInt_le, vp_in_iff, zt_0, zt_1, zt_2, zt_3, zt_4, zt_5, zt_6, zt_7, zt_8, zt_9, zt_10, zt_11, zt_12, zt_13, zt_14, zt_15, zt_16, zt_17, zt_18, zt_19, zt_20, zt_21, zt_22, zt_23, zt_24, zt_25, zt_26, zt_27, zt_28, zt_29, zt_30, zt_31, zt_63, zt_255, zt_400, zt_401, zt_397, zt_511, zt_512, zt_1024, zt_1023, zt_2048, zt_m1, zt_m2, zt_m9] at *; omega)] | rw [zb_f (by simp only [Int32.lt_iff_toInt_lt, Int32.le_iff_toInt_le, vp_in_iff, zt_0, zt_1, zt_2, zt_3, zt_4, zt_5, zt_6, zt_7, zt_8, zt_9, zt_10, zt_11, zt_12, zt_13, zt_14, zt_15, zt_16, zt_17, zt_18, zt_19, zt_20, zt_21, zt_22, zt_23, zt_24, zt_25, zt_26, zt_27, zt_28, zt_29, zt_30, zt_31, zt_63, zt_255, zt_400, zt_401, zt_397, zt_511, zt_512, zt_1024, zt_1023, zt_2048, zt_m1, zt_m2, zt_m9] at *; omega)]
    · refine zw_iconst (x := 1) dX2_hasProcess_12 rfl ?_
      refine zw_goto (tgt := 17) dX2_hasProcess_13 (by decide) ?_
      refine zw_iret dX2_hasProcess_17 rfl rfl ?_
      unfold xP
      refine ⟨?_, rfl⟩
      first | rw [zb_t (by simp only [Int32.lt_iff_toInt_lt, Int32.le_iff_toInt_le, vp_in_iff, zt_0, zt_1, zt_2, zt_3, zt_4, zt_5, zt_6, zt_7, zt_8, zt_9, zt_10, zt_11, zt_12, zt_13, zt_14, zt_15, zt_16, zt_17, zt_18, zt_19, zt_20, zt_21, zt_22, zt_23, zt_24, zt_25, zt_26, zt_27, zt_28, zt_29, zt_30, zt_31, zt_63, zt_255, zt_400, zt_401, zt_397, zt_511, zt_512, zt_1024, zt_1023, zt_2048, zt_m1, zt_m2, zt_m9] at *; omega)] | rw [zb_f (by simp only [Int32.lt_iff_toInt_lt, Int32.le_iff_toInt_le, vp_in_iff, zt_0, zt_1, zt_2, zt_3, zt_4, zt_5, zt_6, zt_7, zt_8, zt_9, zt_10, zt_11, zt_12, zt_13, zt_14, zt_15, zt_16, zt_17, zt_18, zt_19, zt_20, zt_21, zt_22, zt_23, zt_24, zt_25, zt_26, zt_27, zt_28, zt_29, zt_30, zt_31, zt_63, zt_255, zt_400, zt_401, zt_397, zt_511, zt_512, zt_1024, zt_1023, zt_2048, zt_m1, zt_m2, zt_m9] at *; omega)]
set_option maxHeartbeats 4000000 in
set_option maxRecDepth 100000 in
theorem c_X2_hasVariable {l : Launch} {σ : zS} (h : xSh σ) (p : Int32) : zAM l zmX2_hasVariable 0 0 0 0 [.ref 2, .int p] σ (fun v σ' => v = some (.int (zb (decide (0 ≤ p ∧ p < xV σ)))) ∧ σ' = σ) := by
  refine zAM.of (by decide +kernel) (Nat.le_of_ble_eq_true rfl) ?_
  refine zw_iload_n dX2_hasVariable_0 rfl ?_
  refine zw_iflt (tgt := 16) dX2_hasVariable_1 (by decide) (fun c1 => ?_) (fun c1 => ?_)
  · refine zw_iconst (x := 0) dX2_hasVariable_16 rfl ?_
    refine zw_iret dX2_hasVariable_17 rfl rfl ?_
    unfold xV
    refine ⟨?_, rfl⟩
    first | rw [zb_t (by simp only [Int32.lt_iff_toInt_lt, Int32.le_iff_toInt_le, vp_in_iff, zt_0, zt_1, zt_2, zt_3, zt_4, zt_5, zt_6, zt_7, zt_8, zt_9, zt_10, zt_11, zt_12, zt_13, zt_14, zt_15, zt_16, zt_17, zt_18, zt_19, zt_20, zt_21, zt_22, zt_23, zt_24, zt_25, zt_26, zt_27, zt_28, zt_29, zt_30, zt_31, zt_63, zt_255, zt_400, zt_401, zt_397, zt_511, zt_512, zt_1024, zt_1023, zt_2048, zt_m1, zt_m2, zt_m9] at *; omega)] | rw [zb_f (by simp only [Int32.lt_iff_toInt_lt, Int32.le_iff_toInt_le, vp_in_iff, zt_0, zt_1, zt_2, zt_3, zt_4, zt_5, zt_6, zt_7, zt_8, zt_9, zt_10, zt_11, zt_12, zt_13, zt_14, zt_15, zt_16, zt_17, zt_18, zt_19, zt_20, zt_21, zt_22, zt_23, zt_24, zt_25, zt_26, zt_27, zt_28, zt_29, zt_30, zt_31, zt_63, zt_255, zt_400, zt_401, zt_397, zt_511, zt_512, zt_1024, zt_1023, zt_2048, zt_m1, zt_m2, zt_m9] at *; omega)]
  · refine zw_iload_n dX2_hasVariable_4 rfl ?_
    refine zw_aload_n dX2_hasVariable_5 rfl ?_
    refine zw_getI dX2_hasVariable_6 zfX2_38 rfl (xk_2 h) (by decide) ?_
    refine zw_icmpge (tgt := 16) dX2_hasVariable_9 (by decide) (fun c9 => ?_) (fun c9 => ?_)
    · refine zw_iconst (x := 0) dX2_hasVariable_16 rfl ?_
      refine zw_iret dX2_hasVariable_17 rfl rfl ?_
      unfold xV
      refine ⟨?_, rfl⟩
      first | rw [zb_t (by simp only [Int32.lt_iff_toInt_lt, Int32.le_iff_toInt_le, vp_in_iff, zt_0, zt_1, zt_2, zt_3, zt_4, zt_5, zt_6, zt_7, zt_8, zt_9, zt_10, zt_11, zt_12, zt_13, zt_14, zt_15, zt_16, zt_17, zt_18, zt_19, zt_20, zt_21, zt_22, zt_23, zt_24, zt_25, zt_26, zt_27, zt_28, zt_29, zt_30, zt_31, zt_63, zt_255, zt_400, zt_401, zt_397, zt_511, zt_512, zt_1024, zt_1023, zt_2048, zt_m1, zt_m2, zt_m9] at *; omega)] | rw [zb_f (by simp only [Int32.lt_iff_toInt_lt, Int32.le_iff_toInt_le, vp_in_iff, zt_0, zt_1, zt_2, zt_3, zt_4, zt_5, zt_6, zt_7, zt_8, zt_9, zt_10, zt_11, zt_12, zt_13, zt_14, zt_15, zt_16, zt_17, zt_18, zt_19, zt_20, zt_21, zt_22, zt_23, zt_24, zt_25, zt_26, zt_27, zt_28, zt_29, zt_30, zt_31, zt_63, zt_255, zt_400, zt_401, zt_397, zt_511, zt_512, zt_1024, zt_1023, zt_2048, zt_m1, zt_m2, zt_m9] at *; omega)]
    · refine zw_iconst (x := 1) dX2_hasVariable_12 rfl ?_
      refine zw_goto (tgt := 17) dX2_hasVariable_13 (by decide) ?_
      refine zw_iret dX2_hasVariable_17 rfl rfl ?_
      unfold xV
      refine ⟨?_, rfl⟩
      first | rw [zb_t (by simp only [Int32.lt_iff_toInt_lt, Int32.le_iff_toInt_le, vp_in_iff, zt_0, zt_1, zt_2, zt_3, zt_4, zt_5, zt_6, zt_7, zt_8, zt_9, zt_10, zt_11, zt_12, zt_13, zt_14, zt_15, zt_16, zt_17, zt_18, zt_19, zt_20, zt_21, zt_22, zt_23, zt_24, zt_25, zt_26, zt_27, zt_28, zt_29, zt_30, zt_31, zt_63, zt_255, zt_400, zt_401, zt_397, zt_511, zt_512, zt_1024, zt_1023, zt_2048, zt_m1, zt_m2, zt_m9] at *; omega)] | rw [zb_f (by simp only [Int32.lt_iff_toInt_lt, Int32.le_iff_toInt_le, vp_in_iff, zt_0, zt_1, zt_2, zt_3, zt_4, zt_5, zt_6, zt_7, zt_8, zt_9, zt_10, zt_11, zt_12, zt_13, zt_14, zt_15, zt_16, zt_17, zt_18, zt_19, zt_20, zt_21, zt_22, zt_23, zt_24, zt_25, zt_26, zt_27, zt_28, zt_29, zt_30, zt_31, zt_63, zt_255, zt_400, zt_401, zt_397, zt_511, zt_512, zt_1024, zt_1023, zt_2048, zt_m1, zt_m2, zt_m9] at *; omega)]
set_option maxHeartbeats 4000000 in
set_option maxRecDepth 100000 in
theorem c_X5_isBetween {l : Launch} {σ : zS} (x a b : Int32) : zAM l zmX5_isBetween 0 0 0 0 [.int x, .int a, .int b] σ (fun v σ' => v = some (.int (zb (decide (a ≤ x ∧ x ≤ b)))) ∧ σ' = σ) := by
  refine zAM.of (by decide +kernel) (Nat.le_of_ble_eq_true rfl) ?_
  refine zw_iload_n dX5_isBetween_0 rfl ?_
  refine zw_iload_n dX5_isBetween_1 rfl ?_
  refine zw_icmplt (tgt := 14) dX5_isBetween_2 (by decide) (fun c2 => ?_) (fun c2 => ?_)
  · refine zw_iconst (x := 0) dX5_isBetween_14 rfl ?_
    refine zw_iret dX5_isBetween_15 rfl rfl ?_
    refine ⟨?_, rfl⟩
    first | rw [zb_t (by simp only [Int32.lt_iff_toInt_lt, Int32.le_iff_toInt_le, vp_in_iff, zt_0, zt_1, zt_2, zt_3, zt_4, zt_5, zt_6, zt_7, zt_8, zt_9, zt_10, zt_11, zt_12, zt_13, zt_14, zt_15, zt_16, zt_17, zt_18, zt_19, zt_20, zt_21, zt_22, zt_23, zt_24, zt_25, zt_26, zt_27, zt_28, zt_29, zt_30, zt_31, zt_63, zt_255, zt_400, zt_401, zt_397, zt_511, zt_512, zt_1024, zt_1023, zt_2048, zt_m1, zt_m2, zt_m9] at *; omega)] | rw [zb_f (by simp only [Int32.lt_iff_toInt_lt, Int32.le_iff_toInt_le, vp_in_iff, zt_0, zt_1, zt_2, zt_3, zt_4, zt_5, zt_6, zt_7, zt_8, zt_9, zt_10, zt_11, zt_12, zt_13, zt_14, zt_15, zt_16, zt_17, zt_18, zt_19, zt_20, zt_21, zt_22, zt_23, zt_24, zt_25, zt_26, zt_27, zt_28, zt_29, zt_30, zt_31, zt_63, zt_255, zt_400, zt_401, zt_397, zt_511, zt_512, zt_1024, zt_1023, zt_2048, zt_m1, zt_m2, zt_m9] at *; omega)]
  · refine zw_iload_n dX5_isBetween_5 rfl ?_
    refine zw_iload_n dX5_isBetween_6 rfl ?_
    refine zw_icmpgt (tgt := 14) dX5_isBetween_7 (by decide) (fun c7 => ?_) (fun c7 => ?_)
    · refine zw_iconst (x := 0) dX5_isBetween_14 rfl ?_
      refine zw_iret dX5_isBetween_15 rfl rfl ?_
      refine ⟨?_, rfl⟩
      first | rw [zb_t (by simp only [Int32.lt_iff_toInt_lt, Int32.le_iff_toInt_le, vp_in_iff, zt_0, zt_1, zt_2, zt_3, zt_4, zt_5, zt_6, zt_7, zt_8, zt_9, zt_10, zt_11, zt_12, zt_13, zt_14, zt_15, zt_16, zt_17, zt_18, zt_19, zt_20, zt_21, zt_22, zt_23, zt_24, zt_25, zt_26, zt_27, zt_28, zt_29, zt_30, zt_31, zt_63, zt_255, zt_400, zt_401, zt_397, zt_511, zt_512, zt_1024, zt_1023, zt_2048, zt_m1, zt_m2, zt_m9] at *; omega)] | rw [zb_f (by simp only [Int32.lt_iff_toInt_lt, Int32.le_iff_toInt_le, vp_in_iff, zt_0, zt_1, zt_2, zt_3, zt_4, zt_5, zt_6, zt_7, zt_8, zt_9, zt_10, zt_11, zt_12, zt_13, zt_14, zt_15, zt_16, zt_17, zt_18, zt_19, zt_20, zt_21, zt_22, zt_23, zt_24, zt_25, zt_26, zt_27, zt_28, zt_29, zt_30, zt_31, zt_63, zt_255, zt_400, zt_401, zt_397, zt_511, zt_512, zt_1024, zt_1023, zt_2048, zt_m1, zt_m2, zt_m9] at *; omega)]
    · refine zw_iconst (x := 1) dX5_isBetween_10 rfl ?_
      refine zw_goto (tgt := 15) dX5_isBetween_11 (by decide) ?_
      refine zw_iret dX5_isBetween_15 rfl rfl ?_
      refine ⟨?_, rfl⟩
      first | rw [zb_t (by simp only [Int32.lt_iff_toInt_lt, Int32.le_iff_toInt_le, vp_in_iff, zt_0, zt_1, zt_2, zt_3, zt_4, zt_5, zt_6, zt_7, zt_8, zt_9, zt_10, zt_11, zt_12, zt_13, zt_14, zt_15, zt_16, zt_17, zt_18, zt_19, zt_20, zt_21, zt_22, zt_23, zt_24, zt_25, zt_26, zt_27, zt_28, zt_29, zt_30, zt_31, zt_63, zt_255, zt_400, zt_401, zt_397, zt_511, zt_512, zt_1024, zt_1023, zt_2048, zt_m1, zt_m2, zt_m9] at *; omega)] | rw [zb_f (by simp only [Int32.lt_iff_toInt_lt, Int32.le_iff_toInt_le, vp_in_iff, zt_0, zt_1, zt_2, zt_3, zt_4, zt_5, zt_6, zt_7, zt_8, zt_9, zt_10, zt_11, zt_12, zt_13, zt_14, zt_15, zt_16, zt_17, zt_18, zt_19, zt_20, zt_21, zt_22, zt_23, zt_24, zt_25, zt_26, zt_27, zt_28, zt_29, zt_30, zt_31, zt_63, zt_255, zt_400, zt_401, zt_397, zt_511, zt_512, zt_1024, zt_1023, zt_2048, zt_m1, zt_m2, zt_m9] at *; omega)]
set_option maxHeartbeats 4000000 in
set_option maxRecDepth 100000 in
theorem c_X5_locationIn {l : Launch} {σ : zS} (x a : Int32) : zAM l zmX5_locationIn 0 0 0 0 [.int x, .int a] σ (fun v σ' => v = some (.int (xLoc x a)) ∧ σ' = σ) := by
  refine zAM.of (by decide +kernel) (Nat.le_of_ble_eq_true rfl) ?_
  refine zw_iload_n dX5_locationIn_0 rfl ?_
  refine zw_iconst (x := 3) dX5_locationIn_1 rfl ?_
  refine zw_iload_n dX5_locationIn_2 rfl ?_
  refine zw_imul dX5_locationIn_3 ?_
  refine zw_iushr dX5_locationIn_4 ?_
  refine zw_bipush (x := 7) dX5_locationIn_5 rfl ?_
  refine zw_iand dX5_locationIn_7 ?_
  refine zw_iret dX5_locationIn_8 rfl rfl ?_
  exact ⟨rfl, rfl⟩
set_option maxHeartbeats 4000000 in
set_option maxRecDepth 100000 in
theorem c_X5_valueIn {l : Launch} {σ : zS} (x a : Int32) : zAM l zmX5_valueIn 0 0 0 0 [.int x, .int a] σ (fun v σ' => v = some (.int (xVal x a)) ∧ σ' = σ) := by
  refine zAM.of (by decide +kernel) (Nat.le_of_ble_eq_true rfl) ?_
  refine zw_iload_n dX5_valueIn_0 rfl ?_
  refine zw_bipush (x := 15) dX5_valueIn_1 rfl ?_
  refine zw_iconst (x := 4) dX5_valueIn_3 rfl ?_
  refine zw_iload_n dX5_valueIn_4 rfl ?_
  refine zw_imul dX5_valueIn_5 ?_
  refine zw_iadd dX5_valueIn_6 ?_
  refine zw_iushr dX5_valueIn_7 ?_
  refine zw_bipush (x := 15) dX5_valueIn_8 rfl ?_
  refine zw_iand dX5_valueIn_10 ?_
  refine zw_iret dX5_valueIn_11 rfl rfl ?_
  exact ⟨rfl, rfl⟩
set_option maxHeartbeats 4000000 in
set_option maxRecDepth 100000 in
theorem c_X5_withLocation {l : Launch} {σ : zS} (x a b : Int32) : zAM l zmX5_withLocation 0 0 0 0 [.int x, .int a, .int b] σ (fun v σ' => v = some (.int (xWLoc x a b)) ∧ σ' = σ) := by
  refine zAM.of (by decide +kernel) (Nat.le_of_ble_eq_true rfl) ?_
  refine zw_iconst (x := 3) dX5_withLocation_0 rfl ?_
  refine zw_iload_n dX5_withLocation_1 rfl ?_
  refine zw_imul dX5_withLocation_2 ?_
  refine zw_istore_n dX5_withLocation_3 (by decide) rfl ?_
  refine zw_iload_n dX5_withLocation_4 rfl ?_
  refine zw_bipush (x := 7) dX5_withLocation_5 rfl ?_
  refine zw_iload_n dX5_withLocation_7 rfl ?_
  refine zw_ishl dX5_withLocation_8 ?_
  refine zw_iconst (x := -1) dX5_withLocation_9 rfl ?_
  refine zw_ixor dX5_withLocation_10 ?_
  refine zw_iand dX5_withLocation_11 ?_
  refine zw_iload_n dX5_withLocation_12 rfl ?_
  refine zw_iload_n dX5_withLocation_13 rfl ?_
  refine zw_ishl dX5_withLocation_14 ?_
  refine zw_ior dX5_withLocation_15 ?_
  refine zw_iret dX5_withLocation_16 rfl rfl ?_
  exact ⟨rfl, rfl⟩
set_option maxHeartbeats 4000000 in
set_option maxRecDepth 100000 in
theorem c_X5_withValue {l : Launch} {σ : zS} (x a b : Int32) : zAM l zmX5_withValue 0 0 0 0 [.int x, .int a, .int b] σ (fun v σ' => v = some (.int (xWVal x a b)) ∧ σ' = σ) := by
  refine zAM.of (by decide +kernel) (Nat.le_of_ble_eq_true rfl) ?_
  refine zw_bipush (x := 15) dX5_withValue_0 rfl ?_
  refine zw_iconst (x := 4) dX5_withValue_2 rfl ?_
  refine zw_iload_n dX5_withValue_3 rfl ?_
  refine zw_imul dX5_withValue_4 ?_
  refine zw_iadd dX5_withValue_5 ?_
  refine zw_istore_n dX5_withValue_6 (by decide) rfl ?_
  refine zw_iload_n dX5_withValue_7 rfl ?_
  refine zw_bipush (x := 15) dX5_withValue_8 rfl ?_
  refine zw_iload_n dX5_withValue_10 rfl ?_
  refine zw_ishl dX5_withValue_11 ?_
  refine zw_iconst (x := -1) dX5_withValue_12 rfl ?_
  refine zw_ixor dX5_withValue_13 ?_
  refine zw_iand dX5_withValue_14 ?_
  refine zw_iload_n dX5_withValue_15 rfl ?_
  refine zw_iload_n dX5_withValue_16 rfl ?_
  refine zw_ishl dX5_withValue_17 ?_
  refine zw_ior dX5_withValue_18 ?_
  refine zw_iret dX5_withValue_19 rfl rfl ?_
  exact ⟨rfl, rfl⟩
set_option maxHeartbeats 4000000 in
set_option maxRecDepth 100000 in
theorem c_X2_movesOf {l : Launch} {σ : zS} (h : xSh σ) {P : Nat} (hP : xP σ = nI P) (hP5 : P ≤ 5) {i : Nat} (hi : i < P) : zAM l zmX2_movesOf 1 21 0 0 [.ref 2, .int (nI i)] σ (fun v σ' => v = some (.int (zI σ 4 i)) ∧ σ' = σ) := by
  refine zAM.of (by decide +kernel) (Nat.le_of_ble_eq_true rfl) ?_
  refine zw_aload_n dX2_movesOf_0 rfl ?_
  refine zw_iload_n dX2_movesOf_1 rfl ?_
  refine zw_callV (y' := zmX2_hasProcess) dX2_movesOf_2 zlX2_34 zmX2_hasProcess_ok (xk_2 h) (by decide) rfl (c_X2_hasProcess h _) rfl rfl (Nat.le_of_ble_eq_true rfl) ⟨Nat.le_of_ble_eq_true rfl, Nat.le_of_ble_eq_true rfl⟩ ⟨Nat.le_of_ble_eq_true rfl, Nat.le_of_ble_eq_true rfl⟩ ?_
  intro v2 s2 q2
  obtain ⟨rfl, rfl⟩ := q2
  rw [zb_t (nI_both hP hP5 hi)]
  refine zw_ifeq (tgt := 17) dX2_movesOf_5 (by decide) (fun c5 => ?_) (fun c5 => ?_)
  · exact absurd c5 (by decide)
  · refine zw_aload_n dX2_movesOf_8 rfl ?_
    refine zw_getR dX2_movesOf_9 zfX2_15 rfl (xk_2 h) (by decide) (xg_2_1 h) ?_
    refine zw_iload_n dX2_movesOf_12 rfl ?_
    refine zw_iaload dX2_movesOf_13 (xk_4 h) (zin_of (xl_4 h) (vp_in_nI (by omega) (by omega))) ?_
    refine zw_goto (tgt := 18) dX2_movesOf_14 (by decide) ?_
    refine zw_iret dX2_movesOf_18 rfl rfl ?_
    rw [nI_clamp (by omega)]
    exact ⟨rfl, rfl⟩
set_option maxHeartbeats 4000000 in
set_option maxRecDepth 100000 in
theorem c_X2_hasLocation {l : Launch} {σ : zS} (h : xSh σ) {P : Nat} (hP : xP σ = nI P) (hP5 : P ≤ 5) {i : Nat} (hi : i < P) (x : Int32) : zAM l zmX2_hasLocation 1 21 0 0 [.ref 2, .int (nI i), .int x] σ (fun v σ' => v = some (.int (zb (decide (0 ≤ x ∧ x < zI σ 3 i)))) ∧ σ' = σ) := by
  refine zAM.of (by decide +kernel) (Nat.le_of_ble_eq_true rfl) ?_
  refine zw_aload_n dX2_hasLocation_0 rfl ?_
  refine zw_iload_n dX2_hasLocation_1 rfl ?_
  refine zw_callV (y' := zmX2_hasProcess) dX2_hasLocation_2 zlX2_34 zmX2_hasProcess_ok (xk_2 h) (by decide) rfl (c_X2_hasProcess h _) rfl rfl (Nat.le_of_ble_eq_true rfl) ⟨Nat.le_of_ble_eq_true rfl, Nat.le_of_ble_eq_true rfl⟩ ⟨Nat.le_of_ble_eq_true rfl, Nat.le_of_ble_eq_true rfl⟩ ?_
  intro v2 s2 q2
  obtain ⟨rfl, rfl⟩ := q2
  rw [zb_t (nI_both hP hP5 hi)]
  refine zw_ifeq (tgt := 26) dX2_hasLocation_5 (by decide) (fun c5 => ?_) (fun c5 => ?_)
  · refine zw_iconst (x := 0) dX2_hasLocation_26 rfl ?_
    refine zw_iret dX2_hasLocation_27 rfl rfl ?_
    first
      | exact absurd c5 (by decide)
      | (refine ⟨?_, rfl⟩; (try rw [nI_clamp (by omega)] at c19); first | rw [zb_t (by simp only [Int32.lt_iff_toInt_lt, Int32.le_iff_toInt_le, vp_in_iff, zt_0, zt_1, zt_2, zt_3, zt_4, zt_5, zt_6, zt_7, zt_8, zt_9, zt_10, zt_11, zt_12, zt_13, zt_14, zt_15, zt_16, zt_17, zt_18, zt_19, zt_20, zt_21, zt_22, zt_23, zt_24, zt_25, zt_26, zt_27, zt_28, zt_29, zt_30, zt_31, zt_63, zt_255, zt_400, zt_401, zt_397, zt_511, zt_512, zt_1024, zt_1023, zt_2048, zt_m1, zt_m2, zt_m9] at *; omega)] | rw [zb_f (by simp only [Int32.lt_iff_toInt_lt, Int32.le_iff_toInt_le, vp_in_iff, zt_0, zt_1, zt_2, zt_3, zt_4, zt_5, zt_6, zt_7, zt_8, zt_9, zt_10, zt_11, zt_12, zt_13, zt_14, zt_15, zt_16, zt_17, zt_18, zt_19, zt_20, zt_21, zt_22, zt_23, zt_24, zt_25, zt_26, zt_27, zt_28, zt_29, zt_30, zt_31, zt_63, zt_255, zt_400, zt_401, zt_397, zt_511, zt_512, zt_1024, zt_1023, zt_2048, zt_m1, zt_m2, zt_m9] at *; omega)])
  · refine zw_iload_n dX2_hasLocation_8 rfl ?_
    refine zw_iflt (tgt := 26) dX2_hasLocation_9 (by decide) (fun c9 => ?_) (fun c9 => ?_)
    · refine zw_iconst (x := 0) dX2_hasLocation_26 rfl ?_
      refine zw_iret dX2_hasLocation_27 rfl rfl ?_
      first
        | exact absurd c5 (by decide)
        | (refine ⟨?_, rfl⟩; (try rw [nI_clamp (by omega)] at c19); first | rw [zb_t (by simp only [Int32.lt_iff_toInt_lt, Int32.le_iff_toInt_le, vp_in_iff, zt_0, zt_1, zt_2, zt_3, zt_4, zt_5, zt_6, zt_7, zt_8, zt_9, zt_10, zt_11, zt_12, zt_13, zt_14, zt_15, zt_16, zt_17, zt_18, zt_19, zt_20, zt_21, zt_22, zt_23, zt_24, zt_25, zt_26, zt_27, zt_28, zt_29, zt_30, zt_31, zt_63, zt_255, zt_400, zt_401, zt_397, zt_511, zt_512, zt_1024, zt_1023, zt_2048, zt_m1, zt_m2, zt_m9] at *; omega)] | rw [zb_f (by simp only [Int32.lt_iff_toInt_lt, Int32.le_iff_toInt_le, vp_in_iff, zt_0, zt_1, zt_2, zt_3, zt_4, zt_5, zt_6, zt_7, zt_8, zt_9, zt_10, zt_11, zt_12, zt_13, zt_14, zt_15, zt_16, zt_17, zt_18, zt_19, zt_20, zt_21, zt_22, zt_23, zt_24, zt_25, zt_26, zt_27, zt_28, zt_29, zt_30, zt_31, zt_63, zt_255, zt_400, zt_401, zt_397, zt_511, zt_512, zt_1024, zt_1023, zt_2048, zt_m1, zt_m2, zt_m9] at *; omega)])
    · refine zw_iload_n dX2_hasLocation_12 rfl ?_
      refine zw_aload_n dX2_hasLocation_13 rfl ?_
      refine zw_getR dX2_hasLocation_14 zfX2_9 rfl (xk_2 h) (by decide) (xg_2_0 h) ?_
      refine zw_iload_n dX2_hasLocation_17 rfl ?_
      refine zw_iaload dX2_hasLocation_18 (xk_3 h) (zin_of (xl_3 h) (vp_in_nI (by omega) (by omega))) ?_
      refine zw_icmpge (tgt := 26) dX2_hasLocation_19 (by decide) (fun c19 => ?_) (fun c19 => ?_)
      · refine zw_iconst (x := 0) dX2_hasLocation_26 rfl ?_
        refine zw_iret dX2_hasLocation_27 rfl rfl ?_
        first
          | exact absurd c5 (by decide)
          | (refine ⟨?_, rfl⟩; (try rw [nI_clamp (by omega)] at c19); first | rw [zb_t (by simp only [Int32.lt_iff_toInt_lt, Int32.le_iff_toInt_le, vp_in_iff, zt_0, zt_1, zt_2, zt_3, zt_4, zt_5, zt_6, zt_7, zt_8, zt_9, zt_10, zt_11, zt_12, zt_13, zt_14, zt_15, zt_16, zt_17, zt_18, zt_19, zt_20, zt_21, zt_22, zt_23, zt_24, zt_25, zt_26, zt_27, zt_28, zt_29, zt_30, zt_31, zt_63, zt_255, zt_400, zt_401, zt_397, zt_511, zt_512, zt_1024, zt_1023, zt_2048, zt_m1, zt_m2, zt_m9] at *; omega)] | rw [zb_f (by simp only [Int32.lt_iff_toInt_lt, Int32.le_iff_toInt_le, vp_in_iff, zt_0, zt_1, zt_2, zt_3, zt_4, zt_5, zt_6, zt_7, zt_8, zt_9, zt_10, zt_11, zt_12, zt_13, zt_14, zt_15, zt_16, zt_17, zt_18, zt_19, zt_20, zt_21, zt_22, zt_23, zt_24, zt_25, zt_26, zt_27, zt_28, zt_29, zt_30, zt_31, zt_63, zt_255, zt_400, zt_401, zt_397, zt_511, zt_512, zt_1024, zt_1023, zt_2048, zt_m1, zt_m2, zt_m9] at *; omega)])
      · refine zw_iconst (x := 1) dX2_hasLocation_22 rfl ?_
        refine zw_goto (tgt := 27) dX2_hasLocation_23 (by decide) ?_
        refine zw_iret dX2_hasLocation_27 rfl rfl ?_
        first
          | exact absurd c5 (by decide)
          | (refine ⟨?_, rfl⟩; (try rw [nI_clamp (by omega)] at c19); first | rw [zb_t (by simp only [Int32.lt_iff_toInt_lt, Int32.le_iff_toInt_le, vp_in_iff, zt_0, zt_1, zt_2, zt_3, zt_4, zt_5, zt_6, zt_7, zt_8, zt_9, zt_10, zt_11, zt_12, zt_13, zt_14, zt_15, zt_16, zt_17, zt_18, zt_19, zt_20, zt_21, zt_22, zt_23, zt_24, zt_25, zt_26, zt_27, zt_28, zt_29, zt_30, zt_31, zt_63, zt_255, zt_400, zt_401, zt_397, zt_511, zt_512, zt_1024, zt_1023, zt_2048, zt_m1, zt_m2, zt_m9] at *; omega)] | rw [zb_f (by simp only [Int32.lt_iff_toInt_lt, Int32.le_iff_toInt_le, vp_in_iff, zt_0, zt_1, zt_2, zt_3, zt_4, zt_5, zt_6, zt_7, zt_8, zt_9, zt_10, zt_11, zt_12, zt_13, zt_14, zt_15, zt_16, zt_17, zt_18, zt_19, zt_20, zt_21, zt_22, zt_23, zt_24, zt_25, zt_26, zt_27, zt_28, zt_29, zt_30, zt_31, zt_63, zt_255, zt_400, zt_401, zt_397, zt_511, zt_512, zt_1024, zt_1023, zt_2048, zt_m1, zt_m2, zt_m9] at *; omega)])
set_option maxHeartbeats 4000000 in
set_option maxRecDepth 100000 in
theorem c_X2_greatestOf {l : Launch} {σ : zS} (h : xSh σ) {V : Nat} (hV : xV σ = nI V) (hV4 : V ≤ 4) {i : Nat} (hi : i < V) : zAM l zmX2_greatestOf 1 21 0 0 [.ref 2, .int (nI i)] σ (fun v σ' => v = some (.int (zI σ 6 i)) ∧ σ' = σ) := by
  refine zAM.of (by decide +kernel) (Nat.le_of_ble_eq_true rfl) ?_
  refine zw_aload_n dX2_greatestOf_0 rfl ?_
  refine zw_iload_n dX2_greatestOf_1 rfl ?_
  refine zw_callV (y' := zmX2_hasVariable) dX2_greatestOf_2 zlX2_41 zmX2_hasVariable_ok (xk_2 h) (by decide) rfl (c_X2_hasVariable h _) rfl rfl (Nat.le_of_ble_eq_true rfl) ⟨Nat.le_of_ble_eq_true rfl, Nat.le_of_ble_eq_true rfl⟩ ⟨Nat.le_of_ble_eq_true rfl, Nat.le_of_ble_eq_true rfl⟩ ?_
  intro v2 s2 q2
  obtain ⟨rfl, rfl⟩ := q2
  rw [zb_t (nI_both hV (by omega) hi)]
  refine zw_ifeq (tgt := 17) dX2_greatestOf_5 (by decide) (fun c5 => ?_) (fun c5 => ?_)
  · exact absurd c5 (by decide)
  · refine zw_aload_n dX2_greatestOf_8 rfl ?_
    refine zw_getR dX2_greatestOf_9 zfX2_24 rfl (xk_2 h) (by decide) (xg_2_3 h) ?_
    refine zw_iload_n dX2_greatestOf_12 rfl ?_
    refine zw_iaload dX2_greatestOf_13 (xk_6 h) (zin_of (xl_6 h) (vp_in_nI (by omega) (by omega))) ?_
    refine zw_goto (tgt := 18) dX2_greatestOf_14 (by decide) ?_
    refine zw_iret dX2_greatestOf_18 rfl rfl ?_
    rw [nI_clamp (by omega)]
    exact ⟨rfl, rfl⟩
set_option maxHeartbeats 4000000 in
set_option maxRecDepth 100000 in
theorem c_X2_greatestOf_no {l : Launch} {σ : zS} (h : xSh σ) (x : Int32) (hx : ¬ (0 ≤ x ∧ x < xV σ)) : zAM l zmX2_greatestOf 1 21 0 0 [.ref 2, .int x] σ (fun v σ' => v = some (.int 0) ∧ σ' = σ) := by
  refine zAM.of (by decide +kernel) (Nat.le_of_ble_eq_true rfl) ?_
  refine zw_aload_n dX2_greatestOf_0 rfl ?_
  refine zw_iload_n dX2_greatestOf_1 rfl ?_
  refine zw_callV (y' := zmX2_hasVariable) dX2_greatestOf_2 zlX2_41 zmX2_hasVariable_ok (xk_2 h) (by decide) rfl (c_X2_hasVariable h _) rfl rfl (Nat.le_of_ble_eq_true rfl) ⟨Nat.le_of_ble_eq_true rfl, Nat.le_of_ble_eq_true rfl⟩ ⟨Nat.le_of_ble_eq_true rfl, Nat.le_of_ble_eq_true rfl⟩ ?_
  intro v2 s2 q2
  obtain ⟨rfl, rfl⟩ := q2
  rw [zb_f hx]
  refine zw_ifeq (tgt := 17) dX2_greatestOf_5 (by decide) (fun c5 => ?_) (fun c5 => ?_)
  · refine zw_iconst (x := 0) dX2_greatestOf_17 rfl ?_
    refine zw_iret dX2_greatestOf_18 rfl rfl ?_
    exact ⟨rfl, rfl⟩
  · exact absurd rfl c5
set_option maxHeartbeats 4000000 in
set_option maxRecDepth 100000 in
theorem c_X2_find {l : Launch} {σ : zS} (h : xSh σ) {P : Nat} (hP : xP σ = nI P) (hP5 : P ≤ 5) {i : Nat} (hi : i < P) {m mc : Nat} (hmc : zI σ 4 i = nI mc) (hm : m < mc) (hm6 : mc ≤ 16) {a : Nat} (ha : zR σ 5 (16 * i + m) = some a) : zAM l zmX2_find 2 42 0 0 [.ref 2, .int (nI i), .int (nI m)] σ (fun v σ' => v = some (.ref a) ∧ σ' = σ) := by
  refine zAM.of (by decide +kernel) (Nat.le_of_ble_eq_true rfl) ?_
  refine zw_iload_n dX2_find_0 rfl ?_
  refine zw_iflt (tgt := 13) dX2_find_1 (by decide) (fun c1 => ?_) (fun c1 => ?_)
  · first
      | exact absurd c1 (nI_pos (by omega))
      | (rw [hmc] at c10; exact absurd (nI_lt hm (by omega)) c10)
  · refine zw_iload_n dX2_find_4 rfl ?_
    refine zw_aload_n dX2_find_5 rfl ?_
    refine zw_iload_n dX2_find_6 rfl ?_
    refine zw_callV (y' := zmX2_movesOf) dX2_find_7 zlX2_44 zmX2_movesOf_ok (xk_2 h) (by decide) rfl (c_X2_movesOf h hP hP5 hi) rfl rfl (Nat.le_of_ble_eq_true rfl) ⟨Nat.le_of_ble_eq_true rfl, Nat.le_of_ble_eq_true rfl⟩ ⟨Nat.le_of_ble_eq_true rfl, Nat.le_of_ble_eq_true rfl⟩ ?_
    intro v7 s7 q7
    obtain ⟨rfl, rfl⟩ := q7
    refine zw_icmplt (tgt := 15) dX2_find_10 (by decide) (fun c10 => ?_) (fun c10 => ?_)
    · refine zw_aload_n dX2_find_15 rfl ?_
      refine zw_getR dX2_find_16 zfX2_20 rfl (xk_2 h) (by decide) (xg_2_2 h) ?_
      refine zw_iload_n dX2_find_19 rfl ?_
      refine zw_bipush (x := 16) dX2_find_20 rfl ?_
      refine zw_imul dX2_find_22 ?_
      refine zw_iload_n dX2_find_23 rfl ?_
      refine zw_iadd dX2_find_24 ?_
      refine zw_aaload (t := 3) dX2_find_25 (xk_5 h) rfl (by decide) (zin_of (xl_5 h) (by rw [nI_find hP5 hi hm hm6]; exact vp_in_nI (by omega) (by omega))) ?_
      rw [nI_find hP5 hi hm hm6, nI_clamp (by omega), ha]
      refine zw_aret dX2_find_26 rfl (Or.inl ⟨_, rfl⟩) ?_
      exact ⟨rfl, rfl⟩
    · first
        | exact absurd c1 (nI_pos (by omega))
        | (rw [hmc] at c10; exact absurd (nI_lt hm (by omega)) c10)
set_option maxHeartbeats 4000000 in
set_option maxRecDepth 100000 in
theorem c_X2_newProcess {l : Launch} {σ : zS} (h : xSh σ) (hin : vp_in (xP σ) 5) (x : Int32) : zAM l zmX2_newProcess 0 0 0 0 [.ref 2, .int x] σ (fun v σ' => v = some (.int (xP σ)) ∧ σ' = zsF (zsI σ 3 (xP σ).toNatClampNeg x) 2 5 2 (xP σ + 1)) := by
  refine zAM.of (by decide +kernel) (Nat.le_of_ble_eq_true rfl) ?_
  refine zw_aload_n dX2_newProcess_0 rfl ?_
  refine zw_getR dX2_newProcess_1 zfX2_9 rfl (xk_2 h) (by decide) (xg_2_0 h) ?_
  refine zw_aload_n dX2_newProcess_4 rfl ?_
  refine zw_getI dX2_newProcess_5 zfX2_30 rfl (xk_2 h) (by decide) ?_
  refine zw_iload_n dX2_newProcess_8 rfl ?_
  refine zw_iastore dX2_newProcess_9 (xk_3 h) (by decide) (zin_of (xl_3 h) hin) ?_
  refine zw_aload_n dX2_newProcess_10 rfl ?_
  refine zw_dup dX2_newProcess_11 rfl ?_
  refine zw_getI dX2_newProcess_12 zfX2_30 rfl (xk_2 h) (by decide) ?_
  refine zw_iconst (x := 1) dX2_newProcess_15 rfl ?_
  refine zw_iadd dX2_newProcess_16 ?_
  refine zw_putI dX2_newProcess_17 zfX2_30 rfl rfl ⟨rfl, rfl⟩ (xk_2 h) (by decide) ?_
  refine zw_aload_n dX2_newProcess_20 rfl ?_
  refine zw_getI dX2_newProcess_21 zfX2_30 rfl (xk_2 h) (by decide) ?_
  refine zw_iconst (x := 1) dX2_newProcess_24 rfl ?_
  refine zw_isub dX2_newProcess_25 ?_
  refine zw_iret dX2_newProcess_26 rfl rfl ?_
  refine ⟨?_, rfl⟩
  rw [zF_zsF, if_pos ⟨rfl, rfl, rfl⟩]
  unfold xP
  rw [zF_zsI, i32_sub1]
set_option maxHeartbeats 4000000 in
set_option maxRecDepth 100000 in
theorem c_X2_newVariable {l : Launch} {σ : zS} (h : xSh σ) (hin : vp_in (xV σ) 4) (x z : Int32) : zAM l zmX2_newVariable 0 0 0 0 [.ref 2, .int x, .int z] σ (fun v σ' => v = some (.int (xV σ)) ∧ σ' = zsF (zsI (zsI σ 6 (xV σ).toNatClampNeg x) 7 (xV σ).toNatClampNeg z) 2 6 2 (xV σ + 1)) := by
  refine zAM.of (by decide +kernel) (Nat.le_of_ble_eq_true rfl) ?_
  refine zw_aload_n dX2_newVariable_0 rfl ?_
  refine zw_getR dX2_newVariable_1 zfX2_24 rfl (xk_2 h) (by decide) (xg_2_3 h) ?_
  refine zw_aload_n dX2_newVariable_4 rfl ?_
  refine zw_getI dX2_newVariable_5 zfX2_38 rfl (xk_2 h) (by decide) ?_
  refine zw_iload_n dX2_newVariable_8 rfl ?_
  refine zw_iastore dX2_newVariable_9 (xk_6 h) (by decide) (zin_of (xl_6 h) hin) ?_
  refine zw_aload_n dX2_newVariable_10 rfl ?_
  refine zw_getR dX2_newVariable_11 zfX2_27 rfl (xk_2 h) (by decide) (xg_2_4 h) ?_
  refine zw_aload_n dX2_newVariable_14 rfl ?_
  refine zw_getI dX2_newVariable_15 zfX2_38 rfl (xk_2 h) (by decide) ?_
  refine zw_iload_n dX2_newVariable_18 rfl ?_
  refine zw_iastore dX2_newVariable_19 (xk_7 h) (by decide) (zin_of (xl_7 h) hin) ?_
  refine zw_aload_n dX2_newVariable_20 rfl ?_
  refine zw_dup dX2_newVariable_21 rfl ?_
  refine zw_getI dX2_newVariable_22 zfX2_38 rfl (xk_2 h) (by decide) ?_
  refine zw_iconst (x := 1) dX2_newVariable_25 rfl ?_
  refine zw_iadd dX2_newVariable_26 ?_
  refine zw_putI dX2_newVariable_27 zfX2_38 rfl rfl ⟨rfl, rfl⟩ (xk_2 h) (by decide) ?_
  refine zw_aload_n dX2_newVariable_30 rfl ?_
  refine zw_getI dX2_newVariable_31 zfX2_38 rfl (xk_2 h) (by decide) ?_
  refine zw_iconst (x := 1) dX2_newVariable_34 rfl ?_
  refine zw_isub dX2_newVariable_35 ?_
  refine zw_iret dX2_newVariable_36 rfl rfl ?_
  refine ⟨?_, rfl⟩
  rw [zF_zsF, if_pos ⟨rfl, rfl, rfl⟩]
  unfold xV
  rw [zF_zsI, zF_zsI, i32_sub1]
set_option maxHeartbeats 4000000 in
set_option maxRecDepth 100000 in
theorem c_X1_init {l : Launch} {σ : zS} {a : Nat} (hm : zK σ a = 1) (p n f t d : Int32) : zAM l zmX1_init 1 20 0 0 [.ref a, .int p, .int n, .int f, .int t, .int d] σ (fun v σ' => v = none ∧ σ' = zsF (zsF (zsF (zsF (zsF σ 1 0 a p) 1 1 a n) 1 2 a f) 1 3 a t) 1 4 a d) := by
  refine zAM.of (by decide +kernel) (Nat.le_of_ble_eq_true rfl) ?_
  refine zw_aload_n dX1_init_0 rfl ?_
  refine zw_objInit dX1_init_1 zoX1_3 ⟨Nat.le_of_ble_eq_true rfl, Nat.le_of_ble_eq_true rfl⟩ ?_
  refine zw_aload_n dX1_init_4 rfl ?_
  refine zw_iload_n dX1_init_5 rfl ?_
  refine zw_putIF dX1_init_6 zfX1_9 rfl ⟨rfl, rfl, rfl, by decide⟩ ⟨rfl, rfl⟩ hm (by decide) ?_
  refine zw_aload_n dX1_init_9 rfl ?_
  refine zw_iload_n dX1_init_10 rfl ?_
  refine zw_putIF dX1_init_11 zfX1_15 rfl ⟨rfl, rfl, rfl, by decide⟩ ⟨rfl, rfl⟩ hm (by decide) ?_
  refine zw_aload_n dX1_init_14 rfl ?_
  refine zw_iload_n dX1_init_15 rfl ?_
  refine zw_putIF dX1_init_16 zfX1_18 rfl ⟨rfl, rfl, rfl, by decide⟩ ⟨rfl, rfl⟩ hm (by decide) ?_
  refine zw_aload_n dX1_init_19 rfl ?_
  refine zw_iload dX1_init_20 rfl ?_
  refine zw_putIF dX1_init_22 zfX1_21 rfl ⟨rfl, rfl, rfl, by decide⟩ ⟨rfl, rfl⟩ hm (by decide) ?_
  refine zw_aload_n dX1_init_25 rfl ?_
  refine zw_iload dX1_init_26 rfl ?_
  refine zw_putIF dX1_init_28 zfX1_24 rfl ⟨rfl, rfl, rfl, by decide⟩ ⟨rfl, rfl⟩ hm (by decide) ?_
  refine zw_vret dX1_init_31 rfl ?_
  exact ⟨rfl, rfl⟩
set_option maxHeartbeats 4000000 in
set_option maxRecDepth 100000 in
theorem c_X1_setGuard {l : Launch} {σ : zS} {a : Nat} (hm : zK σ a = 1) (x y z : Int32) : zAM l zmX1_setGuard 0 0 0 0 [.ref a, .int x, .int y, .int z] σ (fun v σ' => v = some (.int (zF σ 1 5 a)) ∧ σ' = zsF (zsF (zsF σ 1 5 a x) 1 6 a y) 1 7 a z) := by
  refine zAM.of (by decide +kernel) (Nat.le_of_ble_eq_true rfl) ?_
  refine zw_aload_n dX1_setGuard_0 rfl ?_
  refine zw_getI dX1_setGuard_1 zfX1_27 rfl hm (by decide) ?_
  refine zw_istore dX1_setGuard_4 (by decide) rfl ?_
  refine zw_aload_n dX1_setGuard_6 rfl ?_
  refine zw_iload_n dX1_setGuard_7 rfl ?_
  refine zw_putI dX1_setGuard_8 zfX1_27 rfl rfl ⟨rfl, rfl⟩ hm (by decide) ?_
  refine zw_aload_n dX1_setGuard_11 rfl ?_
  refine zw_iload_n dX1_setGuard_12 rfl ?_
  refine zw_putI dX1_setGuard_13 zfX1_30 rfl rfl ⟨rfl, rfl⟩ hm (by decide) ?_
  refine zw_aload_n dX1_setGuard_16 rfl ?_
  refine zw_iload_n dX1_setGuard_17 rfl ?_
  refine zw_putI dX1_setGuard_18 zfX1_33 rfl rfl ⟨rfl, rfl⟩ hm (by decide) ?_
  refine zw_iload dX1_setGuard_21 rfl ?_
  refine zw_iret dX1_setGuard_23 rfl rfl ?_
  exact ⟨rfl, rfl⟩
set_option maxHeartbeats 4000000 in
set_option maxRecDepth 100000 in
theorem c_X1_setDeed {l : Launch} {σ : zS} {a : Nat} (hm : zK σ a = 1) (x y z g : Int32) : zAM l zmX1_setDeed 0 0 0 0 [.ref a, .int x, .int y, .int z, .int g] σ (fun v σ' => v = some (.int (zF σ 1 8 a)) ∧ σ' = zsF (zsF (zsF (zsF σ 1 8 a x) 1 9 a y) 1 10 a z) 1 11 a g) := by
  refine zAM.of (by decide +kernel) (Nat.le_of_ble_eq_true rfl) ?_
  refine zw_aload_n dX1_setDeed_0 rfl ?_
  refine zw_getI dX1_setDeed_1 zfX1_36 rfl hm (by decide) ?_
  refine zw_istore dX1_setDeed_4 (by decide) rfl ?_
  refine zw_aload_n dX1_setDeed_6 rfl ?_
  refine zw_iload_n dX1_setDeed_7 rfl ?_
  refine zw_putI dX1_setDeed_8 zfX1_36 rfl rfl ⟨rfl, rfl⟩ hm (by decide) ?_
  refine zw_aload_n dX1_setDeed_11 rfl ?_
  refine zw_iload_n dX1_setDeed_12 rfl ?_
  refine zw_putI dX1_setDeed_13 zfX1_39 rfl rfl ⟨rfl, rfl⟩ hm (by decide) ?_
  refine zw_aload_n dX1_setDeed_16 rfl ?_
  refine zw_iload_n dX1_setDeed_17 rfl ?_
  refine zw_putI dX1_setDeed_18 zfX1_42 rfl rfl ⟨rfl, rfl⟩ hm (by decide) ?_
  refine zw_aload_n dX1_setDeed_21 rfl ?_
  refine zw_iload dX1_setDeed_22 rfl ?_
  refine zw_putI dX1_setDeed_24 zfX1_45 rfl rfl ⟨rfl, rfl⟩ hm (by decide) ?_
  refine zw_iload dX1_setDeed_27 rfl ?_
  refine zw_iret dX1_setDeed_29 rfl rfl ?_
  exact ⟨rfl, rfl⟩
set_option maxHeartbeats 4000000 in
set_option maxRecDepth 100000 in
theorem c_X1_guardAllows {l : Launch} {σ : zS} {a : Nat} (hm : zK σ a = 1) (k : Int32) : zAM l zmX1_guardAllows 1 21 0 0 [.ref a, .int k] σ (fun v σ' => v = some (.int (zb (xGA σ a k))) ∧ σ' = σ) := by
  refine zAM.of (by decide +kernel) (Nat.le_of_ble_eq_true rfl) ?_
  refine zw_aload_n dX1_guardAllows_0 rfl ?_
  refine zw_getI dX1_guardAllows_1 zfX1_27 rfl hm (by decide) ?_
  generalize hgs : zF σ 1 5 a = gs
  rcases zsplit4 gs with rfl | rfl | rfl | rfl | hw
  · refine zw_tableIn (off := 32) (tgt := 36) dX1_guardAllows_4 (by decide) (by decide) (by decide) (by decide) ?_
    refine zw_iload_n dX1_guardAllows_36 rfl ?_
    refine zw_aload_n dX1_guardAllows_37 rfl ?_
    refine zw_getI dX1_guardAllows_38 zfX1_30 rfl hm (by decide) ?_
    refine zw_callS (y' := zmX5_valueIn) dX1_guardAllows_41 zlX1_60 zmX5_valueIn_ok (c_X5_valueIn _ _) rfl rfl (Nat.le_of_ble_eq_true rfl) ⟨Nat.le_of_ble_eq_true rfl, Nat.le_of_ble_eq_true rfl⟩ ⟨Nat.le_of_ble_eq_true rfl, Nat.le_of_ble_eq_true rfl⟩ ?_
    intro v41 s41 q41
    obtain ⟨rfl, rfl⟩ := q41
    refine zw_aload_n dX1_guardAllows_44 rfl ?_
    refine zw_getI dX1_guardAllows_45 zfX1_33 rfl hm (by decide) ?_
    refine zw_icmpne (tgt := 55) dX1_guardAllows_48 (by decide) (fun c48 => ?_) (fun c48 => ?_)
    · refine zw_iconst (x := 0) dX1_guardAllows_55 rfl ?_
      refine zw_iret dX1_guardAllows_56 rfl rfl ?_
      refine ⟨?_, rfl⟩
      (try have n1 : gs ≠ 1 := fun e => by subst e; revert hw; decide)
      (try have n2 : gs ≠ 2 := fun e => by subst e; revert hw; decide)
      (try have n3 : gs ≠ 3 := fun e => by subst e; revert hw; decide)
      (try have n4 : gs ≠ 4 := fun e => by subst e; revert hw; decide)
      unfold xGA
      rw [hgs]
      simp_all [zb, Int32.not_lt, Int32.not_le]
    · refine zw_iconst (x := 1) dX1_guardAllows_51 rfl ?_
      refine zw_goto (tgt := 56) dX1_guardAllows_52 (by decide) ?_
      refine zw_iret dX1_guardAllows_56 rfl rfl ?_
      refine ⟨?_, rfl⟩
      (try have n1 : gs ≠ 1 := fun e => by subst e; revert hw; decide)
      (try have n2 : gs ≠ 2 := fun e => by subst e; revert hw; decide)
      (try have n3 : gs ≠ 3 := fun e => by subst e; revert hw; decide)
      (try have n4 : gs ≠ 4 := fun e => by subst e; revert hw; decide)
      unfold xGA
      rw [hgs]
      simp_all [zb, Int32.not_lt, Int32.not_le]
  · refine zw_tableIn (off := 53) (tgt := 57) dX1_guardAllows_4 (by decide) (by decide) (by decide) (by decide) ?_
    refine zw_iload_n dX1_guardAllows_57 rfl ?_
    refine zw_aload_n dX1_guardAllows_58 rfl ?_
    refine zw_getI dX1_guardAllows_59 zfX1_30 rfl hm (by decide) ?_
    refine zw_callS (y' := zmX5_valueIn) dX1_guardAllows_62 zlX1_60 zmX5_valueIn_ok (c_X5_valueIn _ _) rfl rfl (Nat.le_of_ble_eq_true rfl) ⟨Nat.le_of_ble_eq_true rfl, Nat.le_of_ble_eq_true rfl⟩ ⟨Nat.le_of_ble_eq_true rfl, Nat.le_of_ble_eq_true rfl⟩ ?_
    intro v62 s62 q62
    obtain ⟨rfl, rfl⟩ := q62
    refine zw_aload_n dX1_guardAllows_65 rfl ?_
    refine zw_getI dX1_guardAllows_66 zfX1_33 rfl hm (by decide) ?_
    refine zw_icmpeq (tgt := 76) dX1_guardAllows_69 (by decide) (fun c69 => ?_) (fun c69 => ?_)
    · refine zw_iconst (x := 0) dX1_guardAllows_76 rfl ?_
      refine zw_iret dX1_guardAllows_77 rfl rfl ?_
      refine ⟨?_, rfl⟩
      (try have n1 : gs ≠ 1 := fun e => by subst e; revert hw; decide)
      (try have n2 : gs ≠ 2 := fun e => by subst e; revert hw; decide)
      (try have n3 : gs ≠ 3 := fun e => by subst e; revert hw; decide)
      (try have n4 : gs ≠ 4 := fun e => by subst e; revert hw; decide)
      unfold xGA
      rw [hgs]
      simp_all [zb, Int32.not_lt, Int32.not_le]
    · refine zw_iconst (x := 1) dX1_guardAllows_72 rfl ?_
      refine zw_goto (tgt := 77) dX1_guardAllows_73 (by decide) ?_
      refine zw_iret dX1_guardAllows_77 rfl rfl ?_
      refine ⟨?_, rfl⟩
      (try have n1 : gs ≠ 1 := fun e => by subst e; revert hw; decide)
      (try have n2 : gs ≠ 2 := fun e => by subst e; revert hw; decide)
      (try have n3 : gs ≠ 3 := fun e => by subst e; revert hw; decide)
      (try have n4 : gs ≠ 4 := fun e => by subst e; revert hw; decide)
      unfold xGA
      rw [hgs]
      simp_all [zb, Int32.not_lt, Int32.not_le]
  · refine zw_tableIn (off := 74) (tgt := 78) dX1_guardAllows_4 (by decide) (by decide) (by decide) (by decide) ?_
    refine zw_iload_n dX1_guardAllows_78 rfl ?_
    refine zw_aload_n dX1_guardAllows_79 rfl ?_
    refine zw_getI dX1_guardAllows_80 zfX1_30 rfl hm (by decide) ?_
    refine zw_callS (y' := zmX5_valueIn) dX1_guardAllows_83 zlX1_60 zmX5_valueIn_ok (c_X5_valueIn _ _) rfl rfl (Nat.le_of_ble_eq_true rfl) ⟨Nat.le_of_ble_eq_true rfl, Nat.le_of_ble_eq_true rfl⟩ ⟨Nat.le_of_ble_eq_true rfl, Nat.le_of_ble_eq_true rfl⟩ ?_
    intro v83 s83 q83
    obtain ⟨rfl, rfl⟩ := q83
    refine zw_aload_n dX1_guardAllows_86 rfl ?_
    refine zw_getI dX1_guardAllows_87 zfX1_33 rfl hm (by decide) ?_
    refine zw_icmpge (tgt := 97) dX1_guardAllows_90 (by decide) (fun c90 => ?_) (fun c90 => ?_)
    · refine zw_iconst (x := 0) dX1_guardAllows_97 rfl ?_
      refine zw_iret dX1_guardAllows_98 rfl rfl ?_
      refine ⟨?_, rfl⟩
      (try have n1 : gs ≠ 1 := fun e => by subst e; revert hw; decide)
      (try have n2 : gs ≠ 2 := fun e => by subst e; revert hw; decide)
      (try have n3 : gs ≠ 3 := fun e => by subst e; revert hw; decide)
      (try have n4 : gs ≠ 4 := fun e => by subst e; revert hw; decide)
      unfold xGA
      rw [hgs]
      simp_all [zb, Int32.not_lt, Int32.not_le]
    · refine zw_iconst (x := 1) dX1_guardAllows_93 rfl ?_
      refine zw_goto (tgt := 98) dX1_guardAllows_94 (by decide) ?_
      refine zw_iret dX1_guardAllows_98 rfl rfl ?_
      refine ⟨?_, rfl⟩
      (try have n1 : gs ≠ 1 := fun e => by subst e; revert hw; decide)
      (try have n2 : gs ≠ 2 := fun e => by subst e; revert hw; decide)
      (try have n3 : gs ≠ 3 := fun e => by subst e; revert hw; decide)
      (try have n4 : gs ≠ 4 := fun e => by subst e; revert hw; decide)
      unfold xGA
      rw [hgs]
      simp_all [zb, Int32.not_lt, Int32.not_le]
  · refine zw_tableIn (off := 95) (tgt := 99) dX1_guardAllows_4 (by decide) (by decide) (by decide) (by decide) ?_
    refine zw_iload_n dX1_guardAllows_99 rfl ?_
    refine zw_aload_n dX1_guardAllows_100 rfl ?_
    refine zw_getI dX1_guardAllows_101 zfX1_30 rfl hm (by decide) ?_
    refine zw_callS (y' := zmX5_valueIn) dX1_guardAllows_104 zlX1_60 zmX5_valueIn_ok (c_X5_valueIn _ _) rfl rfl (Nat.le_of_ble_eq_true rfl) ⟨Nat.le_of_ble_eq_true rfl, Nat.le_of_ble_eq_true rfl⟩ ⟨Nat.le_of_ble_eq_true rfl, Nat.le_of_ble_eq_true rfl⟩ ?_
    intro v104 s104 q104
    obtain ⟨rfl, rfl⟩ := q104
    refine zw_aload_n dX1_guardAllows_107 rfl ?_
    refine zw_getI dX1_guardAllows_108 zfX1_33 rfl hm (by decide) ?_
    refine zw_icmple (tgt := 118) dX1_guardAllows_111 (by decide) (fun c111 => ?_) (fun c111 => ?_)
    · refine zw_iconst (x := 0) dX1_guardAllows_118 rfl ?_
      refine zw_iret dX1_guardAllows_119 rfl rfl ?_
      refine ⟨?_, rfl⟩
      (try have n1 : gs ≠ 1 := fun e => by subst e; revert hw; decide)
      (try have n2 : gs ≠ 2 := fun e => by subst e; revert hw; decide)
      (try have n3 : gs ≠ 3 := fun e => by subst e; revert hw; decide)
      (try have n4 : gs ≠ 4 := fun e => by subst e; revert hw; decide)
      unfold xGA
      rw [hgs]
      simp_all [zb, Int32.not_lt, Int32.not_le]
    · refine zw_iconst (x := 1) dX1_guardAllows_114 rfl ?_
      refine zw_goto (tgt := 119) dX1_guardAllows_115 (by decide) ?_
      refine zw_iret dX1_guardAllows_119 rfl rfl ?_
      refine ⟨?_, rfl⟩
      (try have n1 : gs ≠ 1 := fun e => by subst e; revert hw; decide)
      (try have n2 : gs ≠ 2 := fun e => by subst e; revert hw; decide)
      (try have n3 : gs ≠ 3 := fun e => by subst e; revert hw; decide)
      (try have n4 : gs ≠ 4 := fun e => by subst e; revert hw; decide)
      unfold xGA
      rw [hgs]
      simp_all [zb, Int32.not_lt, Int32.not_le]
  · refine zw_tableOut (tgt := 120) dX1_guardAllows_4 hw (by decide) ?_
    refine zw_iconst (x := 1) dX1_guardAllows_120 rfl ?_
    refine zw_iret dX1_guardAllows_121 rfl rfl ?_
    refine ⟨?_, rfl⟩
    (try have n1 : gs ≠ 1 := fun e => by subst e; revert hw; decide)
    (try have n2 : gs ≠ 2 := fun e => by subst e; revert hw; decide)
    (try have n3 : gs ≠ 3 := fun e => by subst e; revert hw; decide)
    (try have n4 : gs ≠ 4 := fun e => by subst e; revert hw; decide)
    unfold xGA
    rw [hgs]
    simp_all [zb, Int32.not_lt, Int32.not_le]
set_option maxHeartbeats 4000000 in
set_option maxRecDepth 100000 in
theorem c_X1_afterDeed {l : Launch} {σ : zS} {a : Nat} (hm : zK σ a = 1) (k : Int32) : zAM l zmX1_afterDeed 1 23 0 0 [.ref a, .int k] σ (fun v σ' => v = some (.int (xAD σ a k)) ∧ σ' = σ) := by
  refine zAM.of (by decide +kernel) (Nat.le_of_ble_eq_true rfl) ?_
  refine zw_aload_n dX1_afterDeed_0 rfl ?_
  refine zw_getI dX1_afterDeed_1 zfX1_36 rfl hm (by decide) ?_
  refine zw_ifne (tgt := 9) dX1_afterDeed_4 (by decide) (fun c4 => ?_) (fun c4 => ?_)
  · refine zw_aload_n dX1_afterDeed_9 rfl ?_
    refine zw_getI dX1_afterDeed_10 zfX1_36 rfl hm (by decide) ?_
    refine zw_iconst (x := 1) dX1_afterDeed_13 rfl ?_
    refine zw_icmpne (tgt := 24) dX1_afterDeed_14 (by decide) (fun c14 => ?_) (fun c14 => ?_)
    · refine zw_iload_n dX1_afterDeed_24 rfl ?_
      refine zw_aload_n dX1_afterDeed_25 rfl ?_
      refine zw_getI dX1_afterDeed_26 zfX1_39 rfl hm (by decide) ?_
      refine zw_callS (y' := zmX5_valueIn) dX1_afterDeed_29 zlX1_60 zmX5_valueIn_ok (c_X5_valueIn _ _) rfl rfl (Nat.le_of_ble_eq_true rfl) ⟨Nat.le_of_ble_eq_true rfl, Nat.le_of_ble_eq_true rfl⟩ ⟨Nat.le_of_ble_eq_true rfl, Nat.le_of_ble_eq_true rfl⟩ ?_
      intro v29 s29 q29
      obtain ⟨rfl, rfl⟩ := q29
      refine zw_aload_n dX1_afterDeed_32 rfl ?_
      refine zw_getI dX1_afterDeed_33 zfX1_42 rfl hm (by decide) ?_
      refine zw_iadd dX1_afterDeed_36 ?_
      refine zw_istore_n dX1_afterDeed_37 (by decide) rfl ?_
      refine zw_iload_n dX1_afterDeed_38 rfl ?_
      refine zw_iconst (x := 0) dX1_afterDeed_39 rfl ?_
      refine zw_aload_n dX1_afterDeed_40 rfl ?_
      refine zw_getI dX1_afterDeed_41 zfX1_45 rfl hm (by decide) ?_
      refine zw_callS (y' := zmX5_isBetween) dX1_afterDeed_44 zlX1_63 zmX5_isBetween_ok (c_X5_isBetween _ _ _) rfl rfl (Nat.le_of_ble_eq_true rfl) ⟨Nat.le_of_ble_eq_true rfl, Nat.le_of_ble_eq_true rfl⟩ ⟨Nat.le_of_ble_eq_true rfl, Nat.le_of_ble_eq_true rfl⟩ ?_
      intro v44 s44 q44
      obtain ⟨rfl, rfl⟩ := q44
      refine zw_ifeq (tgt := 62) dX1_afterDeed_47 (by decide) (fun c47 => ?_) (fun c47 => ?_)
      · refine zw_iconst (x := -1) dX1_afterDeed_62 rfl ?_
        refine zw_iret dX1_afterDeed_63 rfl rfl ?_
        refine ⟨?_, rfl⟩
        unfold xAD
        first
          | (have cc := of_decide_eq_false (zb_0.mp c47); simp [c4, c14, cc])
          | (have cc := of_decide_eq_true (zb_1.mp c47); simp [c4, c14, cc])
      · refine zw_iload_n dX1_afterDeed_50 rfl ?_
        refine zw_aload_n dX1_afterDeed_51 rfl ?_
        refine zw_getI dX1_afterDeed_52 zfX1_39 rfl hm (by decide) ?_
        refine zw_iload_n dX1_afterDeed_55 rfl ?_
        refine zw_callS (y' := zmX5_withValue) dX1_afterDeed_56 zlX1_67 zmX5_withValue_ok (c_X5_withValue _ _ _) rfl rfl (Nat.le_of_ble_eq_true rfl) ⟨Nat.le_of_ble_eq_true rfl, Nat.le_of_ble_eq_true rfl⟩ ⟨Nat.le_of_ble_eq_true rfl, Nat.le_of_ble_eq_true rfl⟩ ?_
        intro v56 s56 q56
        obtain ⟨rfl, rfl⟩ := q56
        refine zw_goto (tgt := 63) dX1_afterDeed_59 (by decide) ?_
        refine zw_iret dX1_afterDeed_63 rfl rfl ?_
        refine ⟨?_, rfl⟩
        unfold xAD
        first
          | (have cc := of_decide_eq_false (zb_0.mp c47); simp [c4, c14, cc])
          | (have cc := of_decide_eq_true (zb_1.mp c47); simp [c4, c14, cc])
    · refine zw_aload_n dX1_afterDeed_17 rfl ?_
      refine zw_getI dX1_afterDeed_18 zfX1_42 rfl hm (by decide) ?_
      refine zw_goto (tgt := 37) dX1_afterDeed_21 (by decide) ?_
      refine zw_istore_n dX1_afterDeed_37 (by decide) rfl ?_
      refine zw_iload_n dX1_afterDeed_38 rfl ?_
      refine zw_iconst (x := 0) dX1_afterDeed_39 rfl ?_
      refine zw_aload_n dX1_afterDeed_40 rfl ?_
      refine zw_getI dX1_afterDeed_41 zfX1_45 rfl hm (by decide) ?_
      refine zw_callS (y' := zmX5_isBetween) dX1_afterDeed_44 zlX1_63 zmX5_isBetween_ok (c_X5_isBetween _ _ _) rfl rfl (Nat.le_of_ble_eq_true rfl) ⟨Nat.le_of_ble_eq_true rfl, Nat.le_of_ble_eq_true rfl⟩ ⟨Nat.le_of_ble_eq_true rfl, Nat.le_of_ble_eq_true rfl⟩ ?_
      intro v44 s44 q44
      obtain ⟨rfl, rfl⟩ := q44
      refine zw_ifeq (tgt := 62) dX1_afterDeed_47 (by decide) (fun c47 => ?_) (fun c47 => ?_)
      · refine zw_iconst (x := -1) dX1_afterDeed_62 rfl ?_
        refine zw_iret dX1_afterDeed_63 rfl rfl ?_
        refine ⟨?_, rfl⟩
        unfold xAD
        first
          | (have cc := of_decide_eq_false (zb_0.mp c47); simp [c4, c14, cc])
          | (have cc := of_decide_eq_true (zb_1.mp c47); simp [c4, c14, cc])
      · refine zw_iload_n dX1_afterDeed_50 rfl ?_
        refine zw_aload_n dX1_afterDeed_51 rfl ?_
        refine zw_getI dX1_afterDeed_52 zfX1_39 rfl hm (by decide) ?_
        refine zw_iload_n dX1_afterDeed_55 rfl ?_
        refine zw_callS (y' := zmX5_withValue) dX1_afterDeed_56 zlX1_67 zmX5_withValue_ok (c_X5_withValue _ _ _) rfl rfl (Nat.le_of_ble_eq_true rfl) ⟨Nat.le_of_ble_eq_true rfl, Nat.le_of_ble_eq_true rfl⟩ ⟨Nat.le_of_ble_eq_true rfl, Nat.le_of_ble_eq_true rfl⟩ ?_
        intro v56 s56 q56
        obtain ⟨rfl, rfl⟩ := q56
        refine zw_goto (tgt := 63) dX1_afterDeed_59 (by decide) ?_
        refine zw_iret dX1_afterDeed_63 rfl rfl ?_
        refine ⟨?_, rfl⟩
        unfold xAD
        first
          | (have cc := of_decide_eq_false (zb_0.mp c47); simp [c4, c14, cc])
          | (have cc := of_decide_eq_true (zb_1.mp c47); simp [c4, c14, cc])
  · refine zw_iload_n dX1_afterDeed_7 rfl ?_
    refine zw_iret dX1_afterDeed_8 rfl rfl ?_
    refine ⟨?_, rfl⟩
    unfold xAD
    simp_all [zb]
set_option maxHeartbeats 4000000 in
set_option maxRecDepth 100000 in
theorem c_X1_afterGoing {l : Launch} {σ : zS} {a : Nat} (hm : zK σ a = 1) (k : Int32) : zAM l zmX1_afterGoing 1 23 0 0 [.ref a, .int k] σ (fun v σ' => v = some (.int (xAG σ a k)) ∧ σ' = σ) := by
  refine zAM.of (by decide +kernel) (Nat.le_of_ble_eq_true rfl) ?_
  refine zw_iload_n dX1_afterGoing_0 rfl ?_
  refine zw_aload_n dX1_afterGoing_1 rfl ?_
  refine zw_getI dX1_afterGoing_2 zfX1_9 rfl hm (by decide) ?_
  refine zw_aload_n dX1_afterGoing_5 rfl ?_
  refine zw_getI dX1_afterGoing_6 zfX1_21 rfl hm (by decide) ?_
  refine zw_callS (y' := zmX5_withLocation) dX1_afterGoing_9 zlX1_71 zmX5_withLocation_ok (c_X5_withLocation _ _ _) rfl rfl (Nat.le_of_ble_eq_true rfl) ⟨Nat.le_of_ble_eq_true rfl, Nat.le_of_ble_eq_true rfl⟩ ⟨Nat.le_of_ble_eq_true rfl, Nat.le_of_ble_eq_true rfl⟩ ?_
  intro v9 s9 q9
  obtain ⟨rfl, rfl⟩ := q9
  refine zw_iret dX1_afterGoing_12 rfl rfl ?_
  exact ⟨rfl, rfl⟩
set_option maxHeartbeats 4000000 in
set_option maxRecDepth 100000 in
theorem c_X1_isOpenIn {l : Launch} {σ : zS} {a : Nat} (hm : zK σ a = 1) (k : Int32) : zAM l zmX1_isOpenIn 2 45 0 0 [.ref a, .int k] σ (fun v σ' => v = some (.int (zb (xOpen σ a k))) ∧ σ' = σ) := by
  refine zAM.of (by decide +kernel) (Nat.le_of_ble_eq_true rfl) ?_
  refine zw_iload_n dX1_isOpenIn_0 rfl ?_
  refine zw_aload_n dX1_isOpenIn_1 rfl ?_
  refine zw_getI dX1_isOpenIn_2 zfX1_9 rfl hm (by decide) ?_
  refine zw_callS (y' := zmX5_locationIn) dX1_isOpenIn_5 zlX1_48 zmX5_locationIn_ok (c_X5_locationIn _ _) rfl rfl (Nat.le_of_ble_eq_true rfl) ⟨Nat.le_of_ble_eq_true rfl, Nat.le_of_ble_eq_true rfl⟩ ⟨Nat.le_of_ble_eq_true rfl, Nat.le_of_ble_eq_true rfl⟩ ?_
  intro v5 s5 q5
  obtain ⟨rfl, rfl⟩ := q5
  refine zw_aload_n dX1_isOpenIn_8 rfl ?_
  refine zw_getI dX1_isOpenIn_9 zfX1_18 rfl hm (by decide) ?_
  refine zw_icmpne (tgt := 35) dX1_isOpenIn_12 (by decide) (fun c12 => ?_) (fun c12 => ?_)
  · refine zw_iconst (x := 0) dX1_isOpenIn_35 rfl ?_
    refine zw_iret dX1_isOpenIn_36 rfl rfl ?_
    refine ⟨?_, rfl⟩
    unfold xOpen
    simp_all [zb, Int32.not_lt, Int32.not_le]
  · refine zw_aload_n dX1_isOpenIn_15 rfl ?_
    refine zw_iload_n dX1_isOpenIn_16 rfl ?_
    refine zw_callV (y' := zmX1_guardAllows) dX1_isOpenIn_17 zlX1_52 zmX1_guardAllows_ok hm (by decide) rfl (c_X1_guardAllows hm _) rfl rfl (Nat.le_of_ble_eq_true rfl) ⟨Nat.le_of_ble_eq_true rfl, Nat.le_of_ble_eq_true rfl⟩ ⟨Nat.le_of_ble_eq_true rfl, Nat.le_of_ble_eq_true rfl⟩ ?_
    intro v17 s17 q17
    obtain ⟨rfl, rfl⟩ := q17
    refine zw_ifeq (tgt := 35) dX1_isOpenIn_20 (by decide) (fun c20 => ?_) (fun c20 => ?_)
    · refine zw_iconst (x := 0) dX1_isOpenIn_35 rfl ?_
      refine zw_iret dX1_isOpenIn_36 rfl rfl ?_
      refine ⟨?_, rfl⟩
      unfold xOpen
      simp_all [zb, Int32.not_lt, Int32.not_le]
    · refine zw_aload_n dX1_isOpenIn_23 rfl ?_
      refine zw_iload_n dX1_isOpenIn_24 rfl ?_
      refine zw_callV (y' := zmX1_afterDeed) dX1_isOpenIn_25 zlX1_56 zmX1_afterDeed_ok hm (by decide) rfl (c_X1_afterDeed hm _) rfl rfl (Nat.le_of_ble_eq_true rfl) ⟨Nat.le_of_ble_eq_true rfl, Nat.le_of_ble_eq_true rfl⟩ ⟨Nat.le_of_ble_eq_true rfl, Nat.le_of_ble_eq_true rfl⟩ ?_
      intro v25 s25 q25
      obtain ⟨rfl, rfl⟩ := q25
      refine zw_iflt (tgt := 35) dX1_isOpenIn_28 (by decide) (fun c28 => ?_) (fun c28 => ?_)
      · refine zw_iconst (x := 0) dX1_isOpenIn_35 rfl ?_
        refine zw_iret dX1_isOpenIn_36 rfl rfl ?_
        refine ⟨?_, rfl⟩
        unfold xOpen
        simp_all [zb, Int32.not_lt, Int32.not_le]
      · refine zw_iconst (x := 1) dX1_isOpenIn_31 rfl ?_
        refine zw_goto (tgt := 36) dX1_isOpenIn_32 (by decide) ?_
        refine zw_iret dX1_isOpenIn_36 rfl rfl ?_
        refine ⟨?_, rfl⟩
        unfold xOpen
        simp_all [zb, Int32.not_lt, Int32.not_le]
