/-! the class's methods on the new object (6: the script's length; the heap is hF 6 xs) -/
set_option maxHeartbeats 4000000 in
set_option maxRecDepth 100000 in
theorem c1_X5_isBetween {l : Launch} {σ : zS} (x a b : Int32) : zAM l zmX5_isBetween 0 0 0 0 [.int x, .int a, .int b] σ (fun v σ' => ((v = some (.int 1) ∧ a ≤ x ∧ x ≤ b) ∨ (v = some (.int 0) ∧ ¬ (a ≤ x ∧ x ≤ b))) ∧ σ' = σ) := by
  refine zAM.of (by decide +kernel) (Nat.le_of_ble_eq_true rfl) ?_
  refine zw_iload_n dX5_isBetween_0 rfl ?_
  refine zw_iload_n dX5_isBetween_1 rfl ?_
  refine zw_icmplt (tgt := 14) dX5_isBetween_2 (by decide) (fun c2 => ?_) (fun c2 => ?_)
  · refine zw_iconst (x := 0) dX5_isBetween_14 rfl ?_
    refine zw_iret dX5_isBetween_15 rfl rfl ?_
    exact ⟨Or.inr ⟨rfl, fun h => absurd h.1 (Int32.not_le.mpr c2)⟩, rfl⟩
  · refine zw_iload_n dX5_isBetween_5 rfl ?_
    refine zw_iload_n dX5_isBetween_6 rfl ?_
    refine zw_icmpgt (tgt := 14) dX5_isBetween_7 (by decide) (fun c7 => ?_) (fun c7 => ?_)
    · refine zw_iconst (x := 0) dX5_isBetween_14 rfl ?_
      refine zw_iret dX5_isBetween_15 rfl rfl ?_
      exact ⟨Or.inr ⟨rfl, fun h => absurd h.2 (Int32.not_le.mpr c7)⟩, rfl⟩
    · refine zw_iconst (x := 1) dX5_isBetween_10 rfl ?_
      refine zw_goto (tgt := 15) dX5_isBetween_11 (by decide) ?_
      refine zw_iret dX5_isBetween_15 rfl rfl ?_
      exact ⟨Or.inl ⟨rfl, Int32.not_lt.mp c2, Int32.not_lt.mp c7⟩, rfl⟩
set_option maxHeartbeats 4000000 in
set_option maxRecDepth 100000 in
theorem c1_X2_hasProcess {l : Launch} {xs : Nat → Int32} (p : Int32) : zAM l zmX2_hasProcess 0 0 0 0 [.ref 2, .int p] (hF 6 xs) (fun v σ' => v = some (.int 0) ∧ σ' = (hF 6 xs)) := by
  refine zAM.of (by decide +kernel) (Nat.le_of_ble_eq_true rfl) ?_
  refine zw_iload_n dX2_hasProcess_0 rfl ?_
  refine zw_iflt (tgt := 16) dX2_hasProcess_1 (by decide) (fun c1 => ?_) (fun c1 => ?_)
  · refine zw_iconst (x := 0) dX2_hasProcess_16 rfl ?_
    refine zw_iret dX2_hasProcess_17 rfl rfl ?_
    exact ⟨rfl, rfl⟩
  · refine zw_iload_n dX2_hasProcess_4 rfl ?_
    refine zw_aload_n dX2_hasProcess_5 rfl ?_
    refine zw_getIv (x := 0) dX2_hasProcess_6 zfX2_30 rfl (show zK _ 2 = 2 from rfl) (by decide) rfl ?_
    refine zw_icmpge (tgt := 16) dX2_hasProcess_9 (by decide) (fun c9 => ?_) (fun c9 => absurd (Int32.not_lt.mp c1) c9)
    refine zw_iconst (x := 0) dX2_hasProcess_16 rfl ?_
    refine zw_iret dX2_hasProcess_17 rfl rfl ?_
    exact ⟨rfl, rfl⟩
set_option maxHeartbeats 4000000 in
set_option maxRecDepth 100000 in
theorem c1_X2_hasVariable {l : Launch} {xs : Nat → Int32} (p : Int32) : zAM l zmX2_hasVariable 0 0 0 0 [.ref 2, .int p] (hF 6 xs) (fun v σ' => v = some (.int 0) ∧ σ' = (hF 6 xs)) := by
  refine zAM.of (by decide +kernel) (Nat.le_of_ble_eq_true rfl) ?_
  refine zw_iload_n dX2_hasVariable_0 rfl ?_
  refine zw_iflt (tgt := 16) dX2_hasVariable_1 (by decide) (fun c1 => ?_) (fun c1 => ?_)
  · refine zw_iconst (x := 0) dX2_hasVariable_16 rfl ?_
    refine zw_iret dX2_hasVariable_17 rfl rfl ?_
    exact ⟨rfl, rfl⟩
  · refine zw_iload_n dX2_hasVariable_4 rfl ?_
    refine zw_aload_n dX2_hasVariable_5 rfl ?_
    refine zw_getIv (x := 0) dX2_hasVariable_6 zfX2_38 rfl (show zK _ 2 = 2 from rfl) (by decide) rfl ?_
    refine zw_icmpge (tgt := 16) dX2_hasVariable_9 (by decide) (fun c9 => ?_) (fun c9 => absurd (Int32.not_lt.mp c1) c9)
    refine zw_iconst (x := 0) dX2_hasVariable_16 rfl ?_
    refine zw_iret dX2_hasVariable_17 rfl rfl ?_
    exact ⟨rfl, rfl⟩
set_option maxHeartbeats 4000000 in
set_option maxRecDepth 100000 in
theorem c1_X3_hasState {l : Launch} {xs : Nat → Int32} (p : Int32) : zAM l zmX3_hasState 0 0 0 0 [.ref 8, .int p] (hF 6 xs) (fun v σ' => v = some (.int 0) ∧ σ' = (hF 6 xs)) := by
  refine zAM.of (by decide +kernel) (Nat.le_of_ble_eq_true rfl) ?_
  refine zw_iload_n dX3_hasState_0 rfl ?_
  refine zw_iflt (tgt := 16) dX3_hasState_1 (by decide) (fun c1 => ?_) (fun c1 => ?_)
  · refine zw_iconst (x := 0) dX3_hasState_16 rfl ?_
    refine zw_iret dX3_hasState_17 rfl rfl ?_
    exact ⟨rfl, rfl⟩
  · refine zw_iload_n dX3_hasState_4 rfl ?_
    refine zw_aload_n dX3_hasState_5 rfl ?_
    refine zw_getIv (x := 0) dX3_hasState_6 zfX3_36 rfl (show zK _ 8 = 3 from rfl) (by decide) rfl ?_
    refine zw_icmpge (tgt := 16) dX3_hasState_9 (by decide) (fun c9 => ?_) (fun c9 => absurd (Int32.not_lt.mp c1) c9)
    refine zw_iconst (x := 0) dX3_hasState_16 rfl ?_
    refine zw_iret dX3_hasState_17 rfl rfl ?_
    exact ⟨rfl, rfl⟩
set_option maxHeartbeats 4000000 in
set_option maxRecDepth 100000 in
theorem c1_X0_hasFact {l : Launch} {xs : Nat → Int32} (p : Int32) : zAM l zmX0_hasFact 0 0 0 0 [.ref 17, .int p] (hF 6 xs) (fun v σ' => v = some (.int 0) ∧ σ' = (hF 6 xs)) := by
  refine zAM.of (by decide +kernel) (Nat.le_of_ble_eq_true rfl) ?_
  refine zw_iload_n dX0_hasFact_0 rfl ?_
  refine zw_iflt (tgt := 16) dX0_hasFact_1 (by decide) (fun c1 => ?_) (fun c1 => ?_)
  · refine zw_iconst (x := 0) dX0_hasFact_16 rfl ?_
    refine zw_iret dX0_hasFact_17 rfl rfl ?_
    exact ⟨rfl, rfl⟩
  · refine zw_iload_n dX0_hasFact_4 rfl ?_
    refine zw_aload_n dX0_hasFact_5 rfl ?_
    refine zw_getIv (x := 0) dX0_hasFact_6 zfX0_21 rfl (show zK _ 17 = 0 from rfl) (by decide) rfl ?_
    refine zw_icmpge (tgt := 16) dX0_hasFact_9 (by decide) (fun c9 => ?_) (fun c9 => absurd (Int32.not_lt.mp c1) c9)
    refine zw_iconst (x := 0) dX0_hasFact_16 rfl ?_
    refine zw_iret dX0_hasFact_17 rfl rfl ?_
    exact ⟨rfl, rfl⟩
set_option maxHeartbeats 4000000 in
set_option maxRecDepth 100000 in
theorem c1_X2_movesOf {l : Launch} {xs : Nat → Int32} (p : Int32) : zAM l zmX2_movesOf 1 21 0 0 [.ref 2, .int p] (hF 6 xs) (fun v σ' => v = some (.int 0) ∧ σ' = (hF 6 xs)) := by
  refine zAM.of (by decide +kernel) (Nat.le_of_ble_eq_true rfl) ?_
  refine zw_aload_n dX2_movesOf_0 rfl ?_
  refine zw_iload_n dX2_movesOf_1 rfl ?_
  refine zw_callV (y' := zmX2_hasProcess) dX2_movesOf_2 zlX2_34 zmX2_hasProcess_ok (show zK _ 2 = 2 from rfl) (by decide) rfl (c1_X2_hasProcess _) rfl rfl (Nat.le_of_ble_eq_true rfl) ⟨Nat.le_of_ble_eq_true rfl, Nat.le_of_ble_eq_true rfl⟩ ⟨Nat.le_of_ble_eq_true rfl, Nat.le_of_ble_eq_true rfl⟩ ?_
  intro v2 s2 q2
  obtain ⟨rfl, rfl⟩ := q2
  refine zw_ifeq (tgt := 17) dX2_movesOf_5 (by decide) (fun c5 => ?_) (fun c5 => absurd c5 (by decide))
  refine zw_iconst (x := 0) dX2_movesOf_17 rfl ?_
  refine zw_iret dX2_movesOf_18 rfl rfl ?_
  exact ⟨rfl, rfl⟩
set_option maxHeartbeats 4000000 in
set_option maxRecDepth 100000 in
theorem c1_X2_find {l : Launch} {xs : Nat → Int32} (p m : Int32) : zAM l zmX2_find 2 42 0 0 [.ref 2, .int p, .int m] (hF 6 xs) (fun v σ' => v = some .null ∧ σ' = (hF 6 xs)) := by
  refine zAM.of (by decide +kernel) (Nat.le_of_ble_eq_true rfl) ?_
  refine zw_iload_n dX2_find_0 rfl ?_
  refine zw_iflt (tgt := 13) dX2_find_1 (by decide) (fun c1 => ?_) (fun c1 => ?_)
  · refine zw_null dX2_find_13 ?_
    refine zw_aretN dX2_find_14 rfl (Or.inl ⟨_, rfl⟩) ?_
    exact ⟨rfl, rfl⟩
  · refine zw_iload_n dX2_find_4 rfl ?_
    refine zw_aload_n dX2_find_5 rfl ?_
    refine zw_iload_n dX2_find_6 rfl ?_
    refine zw_callV (y' := zmX2_movesOf) dX2_find_7 zlX2_44 zmX2_movesOf_ok (show zK _ 2 = 2 from rfl) (by decide) rfl (c1_X2_movesOf _) rfl rfl (Nat.le_of_ble_eq_true rfl) ⟨Nat.le_of_ble_eq_true rfl, Nat.le_of_ble_eq_true rfl⟩ ⟨Nat.le_of_ble_eq_true rfl, Nat.le_of_ble_eq_true rfl⟩ ?_
    intro v7 s7 q7
    obtain ⟨rfl, rfl⟩ := q7
    refine zw_icmplt (tgt := 15) dX2_find_10 (by decide) (fun c10 => absurd c10 c1) (fun c10 => ?_)
    refine zw_null dX2_find_13 ?_
    refine zw_aretN dX2_find_14 rfl (Or.inl ⟨_, rfl⟩) ?_
    exact ⟨rfl, rfl⟩
set_option maxHeartbeats 4000000 in
set_option maxRecDepth 100000 in
theorem c1_X2_hasLocation {l : Launch} {xs : Nat → Int32} (p m : Int32) : zAM l zmX2_hasLocation 1 21 0 0 [.ref 2, .int p, .int m] (hF 6 xs) (fun v σ' => v = some (.int 0) ∧ σ' = (hF 6 xs)) := by
  refine zAM.of (by decide +kernel) (Nat.le_of_ble_eq_true rfl) ?_
  refine zw_aload_n dX2_hasLocation_0 rfl ?_
  refine zw_iload_n dX2_hasLocation_1 rfl ?_
  refine zw_callV (y' := zmX2_hasProcess) dX2_hasLocation_2 zlX2_34 zmX2_hasProcess_ok (show zK _ 2 = 2 from rfl) (by decide) rfl (c1_X2_hasProcess _) rfl rfl (Nat.le_of_ble_eq_true rfl) ⟨Nat.le_of_ble_eq_true rfl, Nat.le_of_ble_eq_true rfl⟩ ⟨Nat.le_of_ble_eq_true rfl, Nat.le_of_ble_eq_true rfl⟩ ?_
  intro v2 s2 q2
  obtain ⟨rfl, rfl⟩ := q2
  refine zw_ifeq (tgt := 26) dX2_hasLocation_5 (by decide) (fun c5 => ?_) (fun c5 => absurd c5 (by decide))
  refine zw_iconst (x := 0) dX2_hasLocation_26 rfl ?_
  refine zw_iret dX2_hasLocation_27 rfl rfl ?_
  exact ⟨rfl, rfl⟩
set_option maxHeartbeats 4000000 in
set_option maxRecDepth 100000 in
theorem c1_X3_isExplored {l : Launch} {xs : Nat → Int32}  : zAM l zmX3_isExplored 0 0 0 0 [.ref 8] (hF 6 xs) (fun v σ' => v = some (.int 0) ∧ σ' = (hF 6 xs)) := by
  refine zAM.of (by decide +kernel) (Nat.le_of_ble_eq_true rfl) ?_
  refine zw_aload_n dX3_isExplored_0 rfl ?_
  refine zw_getIv (x := 0) dX3_isExplored_1 zfX3_36 rfl (show zK _ 8 = 3 from rfl) (by decide) rfl ?_
  refine zw_ifle (tgt := 11) dX3_isExplored_4 (by decide) (fun c4 => ?_) (fun c4 => absurd c4 (by decide))
  refine zw_iconst (x := 0) dX3_isExplored_11 rfl ?_
  refine zw_iret dX3_isExplored_12 rfl rfl ?_
  exact ⟨rfl, rfl⟩
set_option maxHeartbeats 4000000 in
set_option maxRecDepth 100000 in
theorem c1_X3_forget {l : Launch} {xs : Nat → Int32}  : zAM l zmX3_forget 0 0 0 0 [.ref 8] (hF 6 xs) (fun v σ' => v = none ∧ σ' = zsF (zsF (zsF (hF 6 xs) 3 8 8 0) 3 9 8 0) 3 10 8 0) := by
  refine zAM.of (by decide +kernel) (Nat.le_of_ble_eq_true rfl) ?_
  refine zw_aload_n dX3_forget_0 rfl ?_
  refine zw_iconst (x := 0) dX3_forget_1 rfl ?_
  refine zw_putI dX3_forget_2 zfX3_36 rfl rfl ⟨rfl, rfl⟩ (show zK _ 8 = 3 from rfl) (by decide) ?_
  refine zw_aload_n dX3_forget_5 rfl ?_
  refine zw_iconst (x := 0) dX3_forget_6 rfl ?_
  refine zw_putI dX3_forget_7 zfX3_44 rfl rfl ⟨rfl, rfl⟩ (show zK _ 8 = 3 from rfl) (by decide) ?_
  refine zw_aload_n dX3_forget_10 rfl ?_
  refine zw_iconst (x := 0) dX3_forget_11 rfl ?_
  refine zw_putI dX3_forget_12 zfX3_47 rfl rfl ⟨rfl, rfl⟩ (show zK _ 8 = 3 from rfl) (by decide) ?_
  refine zw_vret dX3_forget_15 rfl ?_
  exact ⟨rfl, rfl⟩
set_option maxHeartbeats 4000000 in
set_option maxRecDepth 100000 in
theorem c1_X2_newProcess {l : Launch} {xs : Nat → Int32} (x : Int32) : zAM l zmX2_newProcess 0 0 0 0 [.ref 2, .int x] (zsF (zsF (zsF (hF 6 xs) 3 8 8 0) 3 9 8 0) 3 10 8 0) (fun v σ' => v = some (.int 0) ∧ σ' = zsF (zsI (zsF (zsF (zsF (hF 6 xs) 3 8 8 0) 3 9 8 0) 3 10 8 0) 3 0 x) 2 5 2 1) := by
  refine zAM.of (by decide +kernel) (Nat.le_of_ble_eq_true rfl) ?_
  refine zw_aload_n dX2_newProcess_0 rfl ?_
  refine zw_getR dX2_newProcess_1 zfX2_9 rfl (show zK _ 2 = 2 from rfl) (by decide) rfl ?_
  refine zw_aload_n dX2_newProcess_4 rfl ?_
  refine zw_getIv (x := 0) dX2_newProcess_5 zfX2_30 rfl (show zK _ 2 = 2 from rfl) (by decide) rfl ?_
  refine zw_iload_n dX2_newProcess_8 rfl ?_
  refine zw_iastore dX2_newProcess_9 (show zK _ 3 = 100 from rfl) (by decide) (zin_of (show zL _ 3 = 5 from rfl) (by unfold vp_in; decide)) ?_
  refine zw_aload_n dX2_newProcess_10 rfl ?_
  refine zw_dup dX2_newProcess_11 rfl ?_
  refine zw_getIv (x := 0) dX2_newProcess_12 zfX2_30 rfl (show zK _ 2 = 2 from rfl) (by decide) rfl ?_
  refine zw_iconst (x := 1) dX2_newProcess_15 rfl ?_
  refine zw_iadd dX2_newProcess_16 ?_
  refine zw_putI dX2_newProcess_17 zfX2_30 rfl rfl ⟨rfl, rfl⟩ (show zK _ 2 = 2 from rfl) (by decide) ?_
  refine zw_aload_n dX2_newProcess_20 rfl ?_
  refine zw_getIv (x := 1) dX2_newProcess_21 zfX2_30 rfl (show zK _ 2 = 2 from rfl) (by decide) rfl ?_
  refine zw_iconst (x := 1) dX2_newProcess_24 rfl ?_
  refine zw_isub dX2_newProcess_25 ?_
  refine zw_iret dX2_newProcess_26 rfl rfl ?_
  exact ⟨rfl, rfl⟩
set_option maxHeartbeats 4000000 in
set_option maxRecDepth 100000 in
theorem c1_X2_newVariable {l : Launch} {xs : Nat → Int32} (x z : Int32) : zAM l zmX2_newVariable 0 0 0 0 [.ref 2, .int x, .int z] (zsF (zsF (zsF (hF 6 xs) 3 8 8 0) 3 9 8 0) 3 10 8 0) (fun v σ' => v = some (.int 0) ∧ σ' = zsF (zsI (zsI (zsF (zsF (zsF (hF 6 xs) 3 8 8 0) 3 9 8 0) 3 10 8 0) 6 0 x) 7 0 z) 2 6 2 1) := by
  refine zAM.of (by decide +kernel) (Nat.le_of_ble_eq_true rfl) ?_
  refine zw_aload_n dX2_newVariable_0 rfl ?_
  refine zw_getR dX2_newVariable_1 zfX2_24 rfl (show zK _ 2 = 2 from rfl) (by decide) rfl ?_
  refine zw_aload_n dX2_newVariable_4 rfl ?_
  refine zw_getIv (x := 0) dX2_newVariable_5 zfX2_38 rfl (show zK _ 2 = 2 from rfl) (by decide) rfl ?_
  refine zw_iload_n dX2_newVariable_8 rfl ?_
  refine zw_iastore dX2_newVariable_9 (show zK _ 6 = 100 from rfl) (by decide) (zin_of (show zL _ 6 = 4 from rfl) (by unfold vp_in; decide)) ?_
  refine zw_aload_n dX2_newVariable_10 rfl ?_
  refine zw_getR dX2_newVariable_11 zfX2_27 rfl (show zK _ 2 = 2 from rfl) (by decide) rfl ?_
  refine zw_aload_n dX2_newVariable_14 rfl ?_
  refine zw_getIv (x := 0) dX2_newVariable_15 zfX2_38 rfl (show zK _ 2 = 2 from rfl) (by decide) rfl ?_
  refine zw_iload_n dX2_newVariable_18 rfl ?_
  refine zw_iastore dX2_newVariable_19 (show zK _ 7 = 100 from rfl) (by decide) (zin_of (show zL _ 7 = 4 from rfl) (by unfold vp_in; decide)) ?_
  refine zw_aload_n dX2_newVariable_20 rfl ?_
  refine zw_dup dX2_newVariable_21 rfl ?_
  refine zw_getIv (x := 0) dX2_newVariable_22 zfX2_38 rfl (show zK _ 2 = 2 from rfl) (by decide) rfl ?_
  refine zw_iconst (x := 1) dX2_newVariable_25 rfl ?_
  refine zw_iadd dX2_newVariable_26 ?_
  refine zw_putI dX2_newVariable_27 zfX2_38 rfl rfl ⟨rfl, rfl⟩ (show zK _ 2 = 2 from rfl) (by decide) ?_
  refine zw_aload_n dX2_newVariable_30 rfl ?_
  refine zw_getIv (x := 1) dX2_newVariable_31 zfX2_38 rfl (show zK _ 2 = 2 from rfl) (by decide) rfl ?_
  refine zw_iconst (x := 1) dX2_newVariable_34 rfl ?_
  refine zw_isub dX2_newVariable_35 ?_
  refine zw_iret dX2_newVariable_36 rfl rfl ?_
  exact ⟨rfl, rfl⟩
theorem zsplit6 (x : Int32) : x = 0 ∨ x = 1 ∨ x = 2 ∨ x = 3 ∨ x = 4 ∨ x = 5 ∨ (x.toInt < 0 ∨ 5 < x.toInt) := by
  have f : ∀ k : Int32, x.toInt = k.toInt → x = k := fun k h => Int32.toInt_inj.mp h
  have h0 : x.toInt = 0 → x = 0 := fun h => f 0 (h.trans rfl)
  have h1 : x.toInt = 1 → x = 1 := fun h => f 1 (h.trans rfl)
  have h2 : x.toInt = 2 → x = 2 := fun h => f 2 (h.trans rfl)
  have h3 : x.toInt = 3 → x = 3 := fun h => f 3 (h.trans rfl)
  have h4 : x.toInt = 4 → x = 4 := fun h => f 4 (h.trans rfl)
  have h5 : x.toInt = 5 → x = 5 := fun h => f 5 (h.trans rfl)
  by_cases a0 : x.toInt = 0
  · exact Or.inl (h0 a0)
  by_cases a1 : x.toInt = 1
  · exact Or.inr (Or.inl (h1 a1))
  by_cases a2 : x.toInt = 2
  · exact Or.inr (Or.inr (Or.inl (h2 a2)))
  by_cases a3 : x.toInt = 3
  · exact Or.inr (Or.inr (Or.inr (Or.inl (h3 a3))))
  by_cases a4 : x.toInt = 4
  · exact Or.inr (Or.inr (Or.inr (Or.inr (Or.inl (h4 a4)))))
  by_cases a5 : x.toInt = 5
  · exact Or.inr (Or.inr (Or.inr (Or.inr (Or.inr (Or.inl (h5 a5))))))
  · exact Or.inr (Or.inr (Or.inr (Or.inr (Or.inr (Or.inr (by omega))))))
set_option maxHeartbeats 4000000 in
set_option maxRecDepth 100000 in
theorem c1_X5_canBeFact {l : Launch} {xs : Nat → Int32} (t a b : Int32) : zAM l zmX5_canBeFact 2 43 0 0 [.ref 1, .int t, .int a, .int b] (hF 6 xs) (fun v σ' => v = some (.int 0) ∧ σ' = (hF 6 xs)) := by
  refine zAM.of (by decide +kernel) (Nat.le_of_ble_eq_true rfl) ?_
  refine zw_iload_n dX5_canBeFact_0 rfl ?_
  rcases zsplit6 t with rfl | rfl | rfl | rfl | rfl | rfl | hw
  · refine zw_tableIn (off := 39) (tgt := 40) dX5_canBeFact_1 (by decide) (by decide) (by decide) (by decide) ?_
    refine zw_aload_n dX5_canBeFact_40 rfl ?_
    refine zw_getR dX5_canBeFact_41 zfX5_12 rfl (show zK _ 1 = 5 from rfl) (by decide) rfl ?_
    refine zw_iload_n dX5_canBeFact_44 rfl ?_
    refine zw_iload_n dX5_canBeFact_45 rfl ?_
    refine zw_callV (y' := zmX2_hasLocation) dX5_canBeFact_46 zlX5_86 zmX2_hasLocation_ok (show zK _ 2 = 2 from rfl) (by decide) rfl (c1_X2_hasLocation _ _) rfl rfl (Nat.le_of_ble_eq_true rfl) ⟨Nat.le_of_ble_eq_true rfl, Nat.le_of_ble_eq_true rfl⟩ ⟨Nat.le_of_ble_eq_true rfl, Nat.le_of_ble_eq_true rfl⟩ ?_
    intro v46 s46 q46
    obtain ⟨rfl, rfl⟩ := q46
    refine zw_iret dX5_canBeFact_49 rfl rfl ?_
    exact ⟨rfl, rfl⟩
  · refine zw_tableIn (off := 49) (tgt := 50) dX5_canBeFact_1 (by decide) (by decide) (by decide) (by decide) ?_
    refine zw_aload_n dX5_canBeFact_50 rfl ?_
    refine zw_getR dX5_canBeFact_51 zfX5_12 rfl (show zK _ 1 = 5 from rfl) (by decide) rfl ?_
    refine zw_iload_n dX5_canBeFact_54 rfl ?_
    refine zw_callV (y' := zmX2_hasVariable) dX5_canBeFact_55 zlX5_111 zmX2_hasVariable_ok (show zK _ 2 = 2 from rfl) (by decide) rfl (c1_X2_hasVariable _) rfl rfl (Nat.le_of_ble_eq_true rfl) ⟨Nat.le_of_ble_eq_true rfl, Nat.le_of_ble_eq_true rfl⟩ ⟨Nat.le_of_ble_eq_true rfl, Nat.le_of_ble_eq_true rfl⟩ ?_
    intro v55 s55 q55
    obtain ⟨rfl, rfl⟩ := q55
    refine zw_ifeq (tgt := 75) dX5_canBeFact_58 (by decide) (fun c58 => ?_) (fun c58 => absurd c58 (by decide))
    refine zw_iconst (x := 0) dX5_canBeFact_75 rfl ?_
    refine zw_iret dX5_canBeFact_76 rfl rfl ?_
    exact ⟨rfl, rfl⟩
  · refine zw_tableIn (off := 49) (tgt := 50) dX5_canBeFact_1 (by decide) (by decide) (by decide) (by decide) ?_
    refine zw_aload_n dX5_canBeFact_50 rfl ?_
    refine zw_getR dX5_canBeFact_51 zfX5_12 rfl (show zK _ 1 = 5 from rfl) (by decide) rfl ?_
    refine zw_iload_n dX5_canBeFact_54 rfl ?_
    refine zw_callV (y' := zmX2_hasVariable) dX5_canBeFact_55 zlX5_111 zmX2_hasVariable_ok (show zK _ 2 = 2 from rfl) (by decide) rfl (c1_X2_hasVariable _) rfl rfl (Nat.le_of_ble_eq_true rfl) ⟨Nat.le_of_ble_eq_true rfl, Nat.le_of_ble_eq_true rfl⟩ ⟨Nat.le_of_ble_eq_true rfl, Nat.le_of_ble_eq_true rfl⟩ ?_
    intro v55 s55 q55
    obtain ⟨rfl, rfl⟩ := q55
    refine zw_ifeq (tgt := 75) dX5_canBeFact_58 (by decide) (fun c58 => ?_) (fun c58 => absurd c58 (by decide))
    refine zw_iconst (x := 0) dX5_canBeFact_75 rfl ?_
    refine zw_iret dX5_canBeFact_76 rfl rfl ?_
    exact ⟨rfl, rfl⟩
  · refine zw_tableIn (off := 76) (tgt := 77) dX5_canBeFact_1 (by decide) (by decide) (by decide) (by decide) ?_
    refine zw_aload_n dX5_canBeFact_77 rfl ?_
    refine zw_getR dX5_canBeFact_78 zfX5_26 rfl (show zK _ 1 = 5 from rfl) (by decide) rfl ?_
    refine zw_iload_n dX5_canBeFact_81 rfl ?_
    refine zw_callV (y' := zmX0_hasFact) dX5_canBeFact_82 zlX5_191 zmX0_hasFact_ok (show zK _ 17 = 0 from rfl) (by decide) rfl (c1_X0_hasFact _) rfl rfl (Nat.le_of_ble_eq_true rfl) ⟨Nat.le_of_ble_eq_true rfl, Nat.le_of_ble_eq_true rfl⟩ ⟨Nat.le_of_ble_eq_true rfl, Nat.le_of_ble_eq_true rfl⟩ ?_
    intro v82 s82 q82
    obtain ⟨rfl, rfl⟩ := q82
    refine zw_ifeq (tgt := 96) dX5_canBeFact_85 (by decide) (fun c85 => ?_) (fun c85 => absurd c85 (by decide))
    refine zw_iconst (x := 0) dX5_canBeFact_96 rfl ?_
    refine zw_iret dX5_canBeFact_97 rfl rfl ?_
    exact ⟨rfl, rfl⟩
  · refine zw_tableIn (off := 97) (tgt := 98) dX5_canBeFact_1 (by decide) (by decide) (by decide) (by decide) ?_
    refine zw_aload_n dX5_canBeFact_98 rfl ?_
    refine zw_getR dX5_canBeFact_99 zfX5_26 rfl (show zK _ 1 = 5 from rfl) (by decide) rfl ?_
    refine zw_iload_n dX5_canBeFact_102 rfl ?_
    refine zw_callV (y' := zmX0_hasFact) dX5_canBeFact_103 zlX5_191 zmX0_hasFact_ok (show zK _ 17 = 0 from rfl) (by decide) rfl (c1_X0_hasFact _) rfl rfl (Nat.le_of_ble_eq_true rfl) ⟨Nat.le_of_ble_eq_true rfl, Nat.le_of_ble_eq_true rfl⟩ ⟨Nat.le_of_ble_eq_true rfl, Nat.le_of_ble_eq_true rfl⟩ ?_
    intro v103 s103 q103
    obtain ⟨rfl, rfl⟩ := q103
    refine zw_ifeq (tgt := 124) dX5_canBeFact_106 (by decide) (fun c106 => ?_) (fun c106 => absurd c106 (by decide))
    refine zw_iconst (x := 0) dX5_canBeFact_124 rfl ?_
    refine zw_iret dX5_canBeFact_125 rfl rfl ?_
    exact ⟨rfl, rfl⟩
  · refine zw_tableIn (off := 97) (tgt := 98) dX5_canBeFact_1 (by decide) (by decide) (by decide) (by decide) ?_
    refine zw_aload_n dX5_canBeFact_98 rfl ?_
    refine zw_getR dX5_canBeFact_99 zfX5_26 rfl (show zK _ 1 = 5 from rfl) (by decide) rfl ?_
    refine zw_iload_n dX5_canBeFact_102 rfl ?_
    refine zw_callV (y' := zmX0_hasFact) dX5_canBeFact_103 zlX5_191 zmX0_hasFact_ok (show zK _ 17 = 0 from rfl) (by decide) rfl (c1_X0_hasFact _) rfl rfl (Nat.le_of_ble_eq_true rfl) ⟨Nat.le_of_ble_eq_true rfl, Nat.le_of_ble_eq_true rfl⟩ ⟨Nat.le_of_ble_eq_true rfl, Nat.le_of_ble_eq_true rfl⟩ ?_
    intro v103 s103 q103
    obtain ⟨rfl, rfl⟩ := q103
    refine zw_ifeq (tgt := 124) dX5_canBeFact_106 (by decide) (fun c106 => ?_) (fun c106 => absurd c106 (by decide))
    refine zw_iconst (x := 0) dX5_canBeFact_124 rfl ?_
    refine zw_iret dX5_canBeFact_125 rfl rfl ?_
    exact ⟨rfl, rfl⟩
  · refine zw_tableOut (tgt := 126) dX5_canBeFact_1 hw (by decide) ?_
    refine zw_iconst (x := 0) dX5_canBeFact_126 rfl ?_
    refine zw_iret dX5_canBeFact_127 rfl rfl ?_
    exact ⟨rfl, rfl⟩
theorem zsplit5 (x : Int32) : x = 0 ∨ x = 1 ∨ x = 2 ∨ x = 3 ∨ x = 4 ∨ (x.toInt < 0 ∨ 4 < x.toInt) := by
  rcases zsplit6 x with rfl | rfl | rfl | rfl | rfl | rfl | h
  · exact Or.inl rfl
  · exact Or.inr (Or.inl rfl)
  · exact Or.inr (Or.inr (Or.inl rfl))
  · exact Or.inr (Or.inr (Or.inr (Or.inl rfl)))
  · exact Or.inr (Or.inr (Or.inr (Or.inr (Or.inl rfl))))
  · exact Or.inr (Or.inr (Or.inr (Or.inr (Or.inr (Or.inr (by decide))))))
  · exact Or.inr (Or.inr (Or.inr (Or.inr (Or.inr (h.imp (fun q => q) (fun q => by omega))))))
set_option maxHeartbeats 4000000 in
set_option maxRecDepth 100000 in
theorem c1_X2_allMoves {l : Launch} {xs : Nat → Int32}  : zAM l zmX2_allMoves 0 0 0 0 [.ref 2] (hF 6 xs) (fun v σ' => v = some (.int 0) ∧ σ' = (hF 6 xs)) := by
  refine zAM.of (by decide +kernel) (Nat.le_of_ble_eq_true rfl) ?_
  refine zw_iconst (x := 0) dX2_allMoves_0 rfl ?_
  refine zw_istore_n dX2_allMoves_1 (by decide) rfl ?_
  refine zw_iconst (x := 0) dX2_allMoves_2 rfl ?_
  refine zw_istore_n dX2_allMoves_3 (by decide) rfl ?_
  refine zw_iload_n dX2_allMoves_4 rfl ?_
  refine zw_aload_n dX2_allMoves_5 rfl ?_
  refine zw_getIv (x := 0) dX2_allMoves_6 zfX2_30 rfl (show zK _ 2 = 2 from rfl) (by decide) rfl ?_
  refine zw_icmpge (tgt := 27) dX2_allMoves_9 (by decide) (fun c9 => ?_) (fun c9 => absurd c9 (by decide))
  refine zw_iload_n dX2_allMoves_27 rfl ?_
  refine zw_iret dX2_allMoves_28 rfl rfl ?_
  exact ⟨rfl, rfl⟩
set_option maxHeartbeats 4000000 in
set_option maxRecDepth 100000 in
theorem c1_X5_amount {l : Launch} {xs : Nat → Int32} (t : Int32) : zAM l zmX5_amount 1 22 0 0 [.ref 1, .int t] (hF 6 xs) (fun v σ' => v = some (.int 0) ∧ σ' = (hF 6 xs)) := by
  refine zAM.of (by decide +kernel) (Nat.le_of_ble_eq_true rfl) ?_
  refine zw_iload_n dX5_amount_0 rfl ?_
  rcases zsplit5 t with rfl | rfl | rfl | rfl | rfl | hw
  · refine zw_tableIn (off := 35) (tgt := 36) dX5_amount_1 (by decide) (by decide) (by decide) (by decide) ?_
    refine zw_aload_n dX5_amount_36 rfl ?_
    refine zw_getR dX5_amount_37 zfX5_12 rfl (show zK _ 1 = 5 from rfl) (by decide) rfl ?_
    refine zw_getIv (x := 0) dX5_amount_40 zfX5_48 rfl (show zK _ 2 = 2 from rfl) (by decide) rfl ?_
    refine zw_iret dX5_amount_43 rfl rfl ?_
    exact ⟨rfl, rfl⟩
  · refine zw_tableIn (off := 43) (tgt := 44) dX5_amount_1 (by decide) (by decide) (by decide) (by decide) ?_
    refine zw_aload_n dX5_amount_44 rfl ?_
    refine zw_getR dX5_amount_45 zfX5_12 rfl (show zK _ 1 = 5 from rfl) (by decide) rfl ?_
    refine zw_getIv (x := 0) dX5_amount_48 zfX5_68 rfl (show zK _ 2 = 2 from rfl) (by decide) rfl ?_
    refine zw_iret dX5_amount_51 rfl rfl ?_
    exact ⟨rfl, rfl⟩
  · refine zw_tableIn (off := 51) (tgt := 52) dX5_amount_1 (by decide) (by decide) (by decide) (by decide) ?_
    refine zw_aload_n dX5_amount_52 rfl ?_
    refine zw_getR dX5_amount_53 zfX5_12 rfl (show zK _ 1 = 5 from rfl) (by decide) rfl ?_
    refine zw_callV (y' := zmX2_allMoves) dX5_amount_56 zlX5_249 zmX2_allMoves_ok (show zK _ 2 = 2 from rfl) (by decide) rfl c1_X2_allMoves rfl rfl (Nat.le_of_ble_eq_true rfl) ⟨Nat.le_of_ble_eq_true rfl, Nat.le_of_ble_eq_true rfl⟩ ⟨Nat.le_of_ble_eq_true rfl, Nat.le_of_ble_eq_true rfl⟩ ?_
    intro v56 s56 q56
    obtain ⟨rfl, rfl⟩ := q56
    refine zw_iret dX5_amount_59 rfl rfl ?_
    exact ⟨rfl, rfl⟩
  · refine zw_tableIn (off := 59) (tgt := 60) dX5_amount_1 (by decide) (by decide) (by decide) (by decide) ?_
    refine zw_aload_n dX5_amount_60 rfl ?_
    refine zw_getR dX5_amount_61 zfX5_26 rfl (show zK _ 1 = 5 from rfl) (by decide) rfl ?_
    refine zw_getIv (x := 0) dX5_amount_64 zfX5_183 rfl (show zK _ 17 = 0 from rfl) (by decide) rfl ?_
    refine zw_iret dX5_amount_67 rfl rfl ?_
    exact ⟨rfl, rfl⟩
  · refine zw_tableIn (off := 67) (tgt := 68) dX5_amount_1 (by decide) (by decide) (by decide) (by decide) ?_
    refine zw_aload_n dX5_amount_68 rfl ?_
    refine zw_getR dX5_amount_69 zfX5_19 rfl (show zK _ 1 = 5 from rfl) (by decide) rfl ?_
    refine zw_getIv (x := 0) dX5_amount_72 zfX5_211 rfl (show zK _ 8 = 3 from rfl) (by decide) rfl ?_
    refine zw_iret dX5_amount_75 rfl rfl ?_
    exact ⟨rfl, rfl⟩
  · refine zw_tableOut (tgt := 76) dX5_amount_1 hw (by decide) ?_
    refine zw_aload_n dX5_amount_76 rfl ?_
    refine zw_getR dX5_amount_77 zfX5_19 rfl (show zK _ 1 = 5 from rfl) (by decide) rfl ?_
    refine zw_getIv (x := 0) dX5_amount_80 zfX5_237 rfl (show zK _ 8 = 3 from rfl) (by decide) rfl ?_
    refine zw_iret dX5_amount_83 rfl rfl ?_
    exact ⟨rfl, rfl⟩
set_option maxHeartbeats 4000000 in
set_option maxRecDepth 100000 in
theorem c1_X5_mixed {l : Launch} {σ : zS} (d : Int64) (x : Int32) : zAM l zmX5_mixed 0 0 0 0 [.long d, .int x] σ (fun v σ' => v = some (.long (d * 31 + x.toInt64)) ∧ σ' = σ) := by
  refine zAM.of (by decide +kernel) (Nat.le_of_ble_eq_true rfl) ?_
  refine zw_lload_n dX5_mixed_0 rfl ?_
  refine zw_ldc2 (x := 31) dX5_mixed_1 zk2X5_253 ?_
  refine zw_lmul dX5_mixed_4 ?_
  refine zw_iload_n dX5_mixed_5 rfl ?_
  refine zw_i2l dX5_mixed_6 ?_
  refine zw_ladd dX5_mixed_7 ?_
  refine zw_lret dX5_mixed_8 rfl ?_
  exact ⟨rfl, rfl⟩
set_option maxHeartbeats 4000000 in
set_option maxRecDepth 100000 in
theorem c1_X5_addMove {l : Launch} (hfl : l.stackTraces = false) {xs : Nat → Int32} (p q r s : Int32) : zAX l zmX5_addMove 6 100 1 6 [.ref 1, .int p, .int q, .int r, .int s] (hF 6 xs) (fun v σ' => v = some (.float 2) ∧ σ' = (hF 6 xs)) := by
  refine zAX.of (by decide +kernel) (Nat.le_of_ble_eq_true rfl) hfl ?_
  refine zw_aload_n dX5_addMove_0 rfl ?_
  refine zw_getR dX5_addMove_1 zfX5_12 rfl (show zK _ 1 = 5 from rfl) (by decide) rfl ?_
  refine zw_iload_n dX5_addMove_4 rfl ?_
  refine zw_callV (y' := zmX2_hasProcess) dX5_addMove_5 zlX5_77 zmX2_hasProcess_ok (show zK _ 2 = 2 from rfl) (by decide) rfl (c1_X2_hasProcess _) rfl rfl (Nat.le_of_ble_eq_true rfl) ⟨Nat.le_of_ble_eq_true rfl, Nat.le_of_ble_eq_true rfl⟩ ⟨Nat.le_of_ble_eq_true rfl, Nat.le_of_ble_eq_true rfl⟩ ?_
  intro v5 s5 q5
  obtain ⟨rfl, rfl⟩ := q5
  refine zw_ifne (tgt := 21) dX5_addMove_8 (by decide) (fun c8 => absurd c8 (by decide)) (fun c8 => ?_)
  refine zw_throw (k := 2) ⟨by decide +kernel, 81, 83, 85, dX5_addMove_11, dX5_addMove_14, dX5_addMove_15, dX5_addMove_17, dX5_addMove_20, zThW_2 ⟨"no such process", by decide +kernel⟩⟩ ⟨⟨Nat.le_of_ble_eq_true rfl, Nat.le_of_ble_eq_true rfl⟩, Nat.le_of_ble_eq_true rfl, Nat.le_of_ble_eq_true rfl⟩ ?_
  exact ⟨rfl, rfl⟩
set_option maxHeartbeats 4000000 in
set_option maxRecDepth 100000 in
theorem c1_X5_guard {l : Launch} (hfl : l.stackTraces = false) {xs : Nat → Int32} (p q r s t : Int32) : zAX l zmX5_guard 6 100 1 6 [.ref 1, .int p, .int q, .int r, .int s, .int t] (hF 6 xs) (fun v σ' => v = some (.float 2) ∧ σ' = (hF 6 xs)) := by
  refine zAX.of (by decide +kernel) (Nat.le_of_ble_eq_true rfl) hfl ?_
  refine zw_aload_n dX5_guard_0 rfl ?_
  refine zw_getR dX5_guard_1 zfX5_12 rfl (show zK _ 1 = 5 from rfl) (by decide) rfl ?_
  refine zw_iload_n dX5_guard_4 rfl ?_
  refine zw_iload_n dX5_guard_5 rfl ?_
  refine zw_callV (y' := zmX2_find) dX5_guard_6 zlX5_103 zmX2_find_ok (show zK _ 2 = 2 from rfl) (by decide) rfl (c1_X2_find _ _) rfl rfl (Nat.le_of_ble_eq_true rfl) ⟨Nat.le_of_ble_eq_true rfl, Nat.le_of_ble_eq_true rfl⟩ ⟨Nat.le_of_ble_eq_true rfl, Nat.le_of_ble_eq_true rfl⟩ ?_
  intro v6 s6 q6
  obtain ⟨rfl, rfl⟩ := q6
  refine zw_astoreN dX5_guard_9 (by decide) rfl ?_
  refine zw_aloadN dX5_guard_11 rfl ?_
  refine zw_ifnonnullN dX5_guard_13 ?_
  refine zw_throw (k := 2) ⟨by decide +kernel, 81, 107, 85, dX5_guard_16, dX5_guard_19, dX5_guard_20, dX5_guard_22, dX5_guard_25, zThW_2 ⟨"no such move", by decide +kernel⟩⟩ ⟨⟨Nat.le_of_ble_eq_true rfl, Nat.le_of_ble_eq_true rfl⟩, Nat.le_of_ble_eq_true rfl, Nat.le_of_ble_eq_true rfl⟩ ?_
  exact ⟨rfl, rfl⟩
set_option maxHeartbeats 4000000 in
set_option maxRecDepth 100000 in
theorem c1_X5_deed {l : Launch} (hfl : l.stackTraces = false) {xs : Nat → Int32} (p q r s t : Int32) : zAX l zmX5_deed 6 100 1 6 [.ref 1, .int p, .int q, .int r, .int s, .int t] (hF 6 xs) (fun v σ' => v = some (.float 2) ∧ σ' = (hF 6 xs)) := by
  refine zAX.of (by decide +kernel) (Nat.le_of_ble_eq_true rfl) hfl ?_
  refine zw_aload_n dX5_deed_0 rfl ?_
  refine zw_getR dX5_deed_1 zfX5_12 rfl (show zK _ 1 = 5 from rfl) (by decide) rfl ?_
  refine zw_iload_n dX5_deed_4 rfl ?_
  refine zw_iload_n dX5_deed_5 rfl ?_
  refine zw_callV (y' := zmX2_find) dX5_deed_6 zlX5_103 zmX2_find_ok (show zK _ 2 = 2 from rfl) (by decide) rfl (c1_X2_find _ _) rfl rfl (Nat.le_of_ble_eq_true rfl) ⟨Nat.le_of_ble_eq_true rfl, Nat.le_of_ble_eq_true rfl⟩ ⟨Nat.le_of_ble_eq_true rfl, Nat.le_of_ble_eq_true rfl⟩ ?_
  intro v6 s6 q6
  obtain ⟨rfl, rfl⟩ := q6
  refine zw_astoreN dX5_deed_9 (by decide) rfl ?_
  refine zw_aloadN dX5_deed_11 rfl ?_
  refine zw_ifnonnullN dX5_deed_13 ?_
  refine zw_throw (k := 2) ⟨by decide +kernel, 81, 107, 85, dX5_deed_16, dX5_deed_19, dX5_deed_20, dX5_deed_22, dX5_deed_25, zThW_2 ⟨"no such move", by decide +kernel⟩⟩ ⟨⟨Nat.le_of_ble_eq_true rfl, Nat.le_of_ble_eq_true rfl⟩, Nat.le_of_ble_eq_true rfl, Nat.le_of_ble_eq_true rfl⟩ ?_
  exact ⟨rfl, rfl⟩
set_option maxHeartbeats 4000000 in
set_option maxRecDepth 100000 in
theorem c1_X5_explore {l : Launch} (hfl : l.stackTraces = false) {xs : Nat → Int32}  : zAX l zmX5_explore 6 163 1 6 [.ref 1] (hF 6 xs) (fun v σ' => v = some (.float 1) ∧ σ' = (hF 6 xs)) := by
  refine zAX.of (by decide +kernel) (Nat.le_of_ble_eq_true rfl) hfl ?_
  refine zw_aload_n dX5_explore_0 rfl ?_
  refine zw_getR dX5_explore_1 zfX5_12 rfl (show zK _ 1 = 5 from rfl) (by decide) rfl ?_
  refine zw_getIv (x := 0) dX5_explore_4 zfX5_48 rfl (show zK _ 2 = 2 from rfl) (by decide) rfl ?_
  refine zw_ifne (tgt := 20) dX5_explore_7 (by decide) (fun c7 => absurd c7 (by decide)) (fun c7 => ?_)
  refine zw_throw (k := 1) ⟨by decide +kernel, 52, 139, 56, dX5_explore_10, dX5_explore_13, dX5_explore_14, dX5_explore_16, dX5_explore_19, zThW_1 ⟨"there is no process", by decide +kernel⟩⟩ ⟨⟨Nat.le_of_ble_eq_true rfl, Nat.le_of_ble_eq_true rfl⟩, Nat.le_of_ble_eq_true rfl, Nat.le_of_ble_eq_true rfl⟩ ?_
  exact ⟨rfl, rfl⟩
set_option maxHeartbeats 4000000 in
set_option maxRecDepth 100000 in
theorem c1_X5_state {l : Launch} (hfl : l.stackTraces = false) {xs : Nat → Int32} (p q : Int32) : zAX l zmX5_state 6 100 1 6 [.ref 1, .int p, .int q] (hF 6 xs) (fun v σ' => v = some (.float 2) ∧ σ' = (hF 6 xs)) := by
  refine zAX.of (by decide +kernel) (Nat.le_of_ble_eq_true rfl) hfl ?_
  refine zw_aload_n dX5_state_0 rfl ?_
  refine zw_getR dX5_state_1 zfX5_19 rfl (show zK _ 1 = 5 from rfl) (by decide) rfl ?_
  refine zw_iload_n dX5_state_4 rfl ?_
  refine zw_callV (y' := zmX3_hasState) dX5_state_5 zlX5_146 zmX3_hasState_ok (show zK _ 8 = 3 from rfl) (by decide) rfl (c1_X3_hasState _) rfl rfl (Nat.le_of_ble_eq_true rfl) ⟨Nat.le_of_ble_eq_true rfl, Nat.le_of_ble_eq_true rfl⟩ ⟨Nat.le_of_ble_eq_true rfl, Nat.le_of_ble_eq_true rfl⟩ ?_
  intro v5 s5 q5
  obtain ⟨rfl, rfl⟩ := q5
  refine zw_ifne (tgt := 21) dX5_state_8 (by decide) (fun c8 => absurd c8 (by decide)) (fun c8 => ?_)
  refine zw_throw (k := 2) ⟨by decide +kernel, 81, 149, 85, dX5_state_11, dX5_state_14, dX5_state_15, dX5_state_17, dX5_state_20, zThW_2 ⟨"no such state", by decide +kernel⟩⟩ ⟨⟨Nat.le_of_ble_eq_true rfl, Nat.le_of_ble_eq_true rfl⟩, Nat.le_of_ble_eq_true rfl, Nat.le_of_ble_eq_true rfl⟩ ?_
  exact ⟨rfl, rfl⟩
set_option maxHeartbeats 4000000 in
set_option maxRecDepth 100000 in
theorem c1_X5_step {l : Launch} (hfl : l.stackTraces = false) {xs : Nat → Int32} (p q r : Int32) : zAX l zmX5_step 6 100 1 6 [.ref 1, .int p, .int q, .int r] (hF 6 xs) (fun v σ' => v = some (.float 2) ∧ σ' = (hF 6 xs)) := by
  refine zAX.of (by decide +kernel) (Nat.le_of_ble_eq_true rfl) hfl ?_
  refine zw_aload_n dX5_step_0 rfl ?_
  refine zw_getR dX5_step_1 zfX5_19 rfl (show zK _ 1 = 5 from rfl) (by decide) rfl ?_
  refine zw_iload_n dX5_step_4 rfl ?_
  refine zw_callV (y' := zmX3_hasState) dX5_step_5 zlX5_146 zmX3_hasState_ok (show zK _ 8 = 3 from rfl) (by decide) rfl (c1_X3_hasState _) rfl rfl (Nat.le_of_ble_eq_true rfl) ⟨Nat.le_of_ble_eq_true rfl, Nat.le_of_ble_eq_true rfl⟩ ⟨Nat.le_of_ble_eq_true rfl, Nat.le_of_ble_eq_true rfl⟩ ?_
  intro v5 s5 q5
  obtain ⟨rfl, rfl⟩ := q5
  refine zw_ifne (tgt := 21) dX5_step_8 (by decide) (fun c8 => absurd c8 (by decide)) (fun c8 => ?_)
  refine zw_throw (k := 2) ⟨by decide +kernel, 81, 149, 85, dX5_step_11, dX5_step_14, dX5_step_15, dX5_step_17, dX5_step_20, zThW_2 ⟨"no such state", by decide +kernel⟩⟩ ⟨⟨Nat.le_of_ble_eq_true rfl, Nat.le_of_ble_eq_true rfl⟩, Nat.le_of_ble_eq_true rfl, Nat.le_of_ble_eq_true rfl⟩ ?_
  exact ⟨rfl, rfl⟩
set_option maxHeartbeats 4000000 in
set_option maxRecDepth 100000 in
theorem c1_X5_addFact {l : Launch} (hfl : l.stackTraces = false) {xs : Nat → Int32} (p q r : Int32) : zAX l zmX5_addFact 6 100 1 6 [.ref 1, .int p, .int q, .int r] (hF 6 xs) (fun v σ' => v = some (.float 0) ∧ σ' = (hF 6 xs)) := by
  refine zAX.of (by decide +kernel) (Nat.le_of_ble_eq_true rfl) hfl ?_
  refine zw_aload_n dX5_addFact_0 rfl ?_
  refine zw_iload_n dX5_addFact_1 rfl ?_
  refine zw_iload_n dX5_addFact_2 rfl ?_
  refine zw_iload_n dX5_addFact_3 rfl ?_
  refine zw_callV (y' := zmX5_canBeFact) dX5_addFact_4 zlX5_178 zmX5_canBeFact_ok (show zK _ 1 = 5 from rfl) (by decide) rfl (c1_X5_canBeFact _ _ _) rfl rfl (Nat.le_of_ble_eq_true rfl) ⟨Nat.le_of_ble_eq_true rfl, Nat.le_of_ble_eq_true rfl⟩ ⟨Nat.le_of_ble_eq_true rfl, Nat.le_of_ble_eq_true rfl⟩ ?_
  intro v4 s4 q4
  obtain ⟨rfl, rfl⟩ := q4
  refine zw_ifne (tgt := 20) dX5_addFact_7 (by decide) (fun c7 => absurd c7 (by decide)) (fun c7 => ?_)
  refine zw_throw (k := 0) ⟨by decide +kernel, 41, 181, 45, dX5_addFact_10, dX5_addFact_13, dX5_addFact_14, dX5_addFact_16, dX5_addFact_19, zThW_0 ⟨"no such sort, process, variable, fact, location or value", by decide +kernel⟩⟩ ⟨⟨Nat.le_of_ble_eq_true rfl, Nat.le_of_ble_eq_true rfl⟩, Nat.le_of_ble_eq_true rfl, Nat.le_of_ble_eq_true rfl⟩ ?_
  exact ⟨rfl, rfl⟩
set_option maxHeartbeats 4000000 in
set_option maxRecDepth 100000 in
theorem c1_X5_holds {l : Launch} (hfl : l.stackTraces = false) {xs : Nat → Int32} (p q : Int32) : zAX l zmX5_holds 6 100 1 6 [.ref 1, .int p, .int q] (hF 6 xs) (fun v σ' => v = some (.float 2) ∧ σ' = (hF 6 xs)) := by
  refine zAX.of (by decide +kernel) (Nat.le_of_ble_eq_true rfl) hfl ?_
  refine zw_aload_n dX5_holds_0 rfl ?_
  refine zw_getR dX5_holds_1 zfX5_26 rfl (show zK _ 1 = 5 from rfl) (by decide) rfl ?_
  refine zw_iload_n dX5_holds_4 rfl ?_
  refine zw_callV (y' := zmX0_hasFact) dX5_holds_5 zlX5_191 zmX0_hasFact_ok (show zK _ 17 = 0 from rfl) (by decide) rfl (c1_X0_hasFact _) rfl rfl (Nat.le_of_ble_eq_true rfl) ⟨Nat.le_of_ble_eq_true rfl, Nat.le_of_ble_eq_true rfl⟩ ⟨Nat.le_of_ble_eq_true rfl, Nat.le_of_ble_eq_true rfl⟩ ?_
  intro v5 s5 q5
  obtain ⟨rfl, rfl⟩ := q5
  refine zw_ifne (tgt := 21) dX5_holds_8 (by decide) (fun c8 => absurd c8 (by decide)) (fun c8 => ?_)
  refine zw_throw (k := 2) ⟨by decide +kernel, 81, 194, 85, dX5_holds_11, dX5_holds_14, dX5_holds_15, dX5_holds_17, dX5_holds_20, zThW_2 ⟨"no such fact", by decide +kernel⟩⟩ ⟨⟨Nat.le_of_ble_eq_true rfl, Nat.le_of_ble_eq_true rfl⟩, Nat.le_of_ble_eq_true rfl, Nat.le_of_ble_eq_true rfl⟩ ?_
  exact ⟨rfl, rfl⟩
set_option maxHeartbeats 4000000 in
set_option maxRecDepth 100000 in
theorem c1_X5_where {l : Launch} (hfl : l.stackTraces = false) {xs : Nat → Int32} (p q : Int32) : zAX l zmX5_where 6 100 1 6 [.ref 1, .int p, .int q] (hF 6 xs) (fun v σ' => v = some (.float 2) ∧ σ' = (hF 6 xs)) := by
  refine zAX.of (by decide +kernel) (Nat.le_of_ble_eq_true rfl) hfl ?_
  refine zw_aload_n dX5_where_0 rfl ?_
  refine zw_getR dX5_where_1 zfX5_26 rfl (show zK _ 1 = 5 from rfl) (by decide) rfl ?_
  refine zw_iload_n dX5_where_4 rfl ?_
  refine zw_callV (y' := zmX0_hasFact) dX5_where_5 zlX5_191 zmX0_hasFact_ok (show zK _ 17 = 0 from rfl) (by decide) rfl (c1_X0_hasFact _) rfl rfl (Nat.le_of_ble_eq_true rfl) ⟨Nat.le_of_ble_eq_true rfl, Nat.le_of_ble_eq_true rfl⟩ ⟨Nat.le_of_ble_eq_true rfl, Nat.le_of_ble_eq_true rfl⟩ ?_
  intro v5 s5 q5
  obtain ⟨rfl, rfl⟩ := q5
  refine zw_ifne (tgt := 21) dX5_where_8 (by decide) (fun c8 => absurd c8 (by decide)) (fun c8 => ?_)
  refine zw_throw (k := 2) ⟨by decide +kernel, 81, 194, 85, dX5_where_11, dX5_where_14, dX5_where_15, dX5_where_17, dX5_where_20, zThW_2 ⟨"no such fact", by decide +kernel⟩⟩ ⟨⟨Nat.le_of_ble_eq_true rfl, Nat.le_of_ble_eq_true rfl⟩, Nat.le_of_ble_eq_true rfl, Nat.le_of_ble_eq_true rfl⟩ ?_
  exact ⟨rfl, rfl⟩
set_option maxHeartbeats 4000000 in
set_option maxRecDepth 100000 in
theorem c1_X5_stuck {l : Launch} (hfl : l.stackTraces = false) {xs : Nat → Int32}  : zAX l zmX5_stuck 6 100 1 6 [.ref 1] (hF 6 xs) (fun v σ' => v = some (.float 1) ∧ σ' = (hF 6 xs)) := by
  refine zAX.of (by decide +kernel) (Nat.le_of_ble_eq_true rfl) hfl ?_
  refine zw_aload_n dX5_stuck_0 rfl ?_
  refine zw_getR dX5_stuck_1 zfX5_19 rfl (show zK _ 1 = 5 from rfl) (by decide) rfl ?_
  refine zw_callV (y' := zmX3_isExplored) dX5_stuck_4 zlX5_199 zmX3_isExplored_ok (show zK _ 8 = 3 from rfl) (by decide) rfl c1_X3_isExplored rfl rfl (Nat.le_of_ble_eq_true rfl) ⟨Nat.le_of_ble_eq_true rfl, Nat.le_of_ble_eq_true rfl⟩ ⟨Nat.le_of_ble_eq_true rfl, Nat.le_of_ble_eq_true rfl⟩ ?_
  intro v4 s4 q4
  obtain ⟨rfl, rfl⟩ := q4
  refine zw_ifne (tgt := 20) dX5_stuck_7 (by decide) (fun c7 => absurd c7 (by decide)) (fun c7 => ?_)
  refine zw_throw (k := 1) ⟨by decide +kernel, 52, 203, 56, dX5_stuck_10, dX5_stuck_13, dX5_stuck_14, dX5_stuck_16, dX5_stuck_19, zThW_1 ⟨"it is unexplored", by decide +kernel⟩⟩ ⟨⟨Nat.le_of_ble_eq_true rfl, Nat.le_of_ble_eq_true rfl⟩, Nat.le_of_ble_eq_true rfl, Nat.le_of_ble_eq_true rfl⟩ ?_
  exact ⟨rfl, rfl⟩
set_option maxHeartbeats 4000000 in
set_option maxRecDepth 100000 in
theorem c1_X5_leads {l : Launch} (hfl : l.stackTraces = false) {xs : Nat → Int32} (p q : Int32) : zAX l zmX5_leads 6 148 1 6 [.ref 1, .int p, .int q] (hF 6 xs) (fun v σ' => v = some (.float 2) ∧ σ' = (hF 6 xs)) := by
  refine zAX.of (by decide +kernel) (Nat.le_of_ble_eq_true rfl) hfl ?_
  refine zw_aload_n dX5_leads_0 rfl ?_
  refine zw_getR dX5_leads_1 zfX5_26 rfl (show zK _ 1 = 5 from rfl) (by decide) rfl ?_
  refine zw_iload_n dX5_leads_4 rfl ?_
  refine zw_callV (y' := zmX0_hasFact) dX5_leads_5 zlX5_191 zmX0_hasFact_ok (show zK _ 17 = 0 from rfl) (by decide) rfl (c1_X0_hasFact _) rfl rfl (Nat.le_of_ble_eq_true rfl) ⟨Nat.le_of_ble_eq_true rfl, Nat.le_of_ble_eq_true rfl⟩ ⟨Nat.le_of_ble_eq_true rfl, Nat.le_of_ble_eq_true rfl⟩ ?_
  intro v5 s5 q5
  obtain ⟨rfl, rfl⟩ := q5
  refine zw_ifeq (tgt := 22) dX5_leads_8 (by decide) (fun c8 => ?_) (fun c8 => absurd c8 (by decide))
  refine zw_throw (k := 2) ⟨by decide +kernel, 81, 194, 85, dX5_leads_22, dX5_leads_25, dX5_leads_26, dX5_leads_28, dX5_leads_31, zThW_2 ⟨"no such fact", by decide +kernel⟩⟩ ⟨⟨Nat.le_of_ble_eq_true rfl, Nat.le_of_ble_eq_true rfl⟩, Nat.le_of_ble_eq_true rfl, Nat.le_of_ble_eq_true rfl⟩ ?_
  exact ⟨rfl, rfl⟩
set_option maxHeartbeats 4000000 in
set_option maxRecDepth 100000 in
theorem c1_X5_isBad {l : Launch} (hfl : l.stackTraces = false) {xs : Nat → Int32} (p q : Int32) : zAX l zmX5_isBad 6 148 1 6 [.ref 1, .int p, .int q] (hF 6 xs) (fun v σ' => v = some (.float 2) ∧ σ' = (hF 6 xs)) := by
  refine zAX.of (by decide +kernel) (Nat.le_of_ble_eq_true rfl) hfl ?_
  refine zw_aload_n dX5_isBad_0 rfl ?_
  refine zw_getR dX5_isBad_1 zfX5_26 rfl (show zK _ 1 = 5 from rfl) (by decide) rfl ?_
  refine zw_iload_n dX5_isBad_4 rfl ?_
  refine zw_callV (y' := zmX0_hasFact) dX5_isBad_5 zlX5_191 zmX0_hasFact_ok (show zK _ 17 = 0 from rfl) (by decide) rfl (c1_X0_hasFact _) rfl rfl (Nat.le_of_ble_eq_true rfl) ⟨Nat.le_of_ble_eq_true rfl, Nat.le_of_ble_eq_true rfl⟩ ⟨Nat.le_of_ble_eq_true rfl, Nat.le_of_ble_eq_true rfl⟩ ?_
  intro v5 s5 q5
  obtain ⟨rfl, rfl⟩ := q5
  refine zw_ifne (tgt := 21) dX5_isBad_8 (by decide) (fun c8 => absurd c8 (by decide)) (fun c8 => ?_)
  refine zw_throw (k := 2) ⟨by decide +kernel, 81, 194, 85, dX5_isBad_11, dX5_isBad_14, dX5_isBad_15, dX5_isBad_17, dX5_isBad_20, zThW_2 ⟨"no such fact", by decide +kernel⟩⟩ ⟨⟨Nat.le_of_ble_eq_true rfl, Nat.le_of_ble_eq_true rfl⟩, Nat.le_of_ble_eq_true rfl, Nat.le_of_ble_eq_true rfl⟩ ?_
  exact ⟨rfl, rfl⟩
set_option maxHeartbeats 4000000 in
set_option maxRecDepth 100000 in
theorem c1_X5_trapped {l : Launch} (hfl : l.stackTraces = false) {xs : Nat → Int32} (p : Int32) : zAX l zmX5_trapped 6 148 1 6 [.ref 1, .int p] (hF 6 xs) (fun v σ' => v = some (.float 2) ∧ σ' = (hF 6 xs)) := by
  refine zAX.of (by decide +kernel) (Nat.le_of_ble_eq_true rfl) hfl ?_
  refine zw_aload_n dX5_trapped_0 rfl ?_
  refine zw_getR dX5_trapped_1 zfX5_26 rfl (show zK _ 1 = 5 from rfl) (by decide) rfl ?_
  refine zw_iload_n dX5_trapped_4 rfl ?_
  refine zw_callV (y' := zmX0_hasFact) dX5_trapped_5 zlX5_191 zmX0_hasFact_ok (show zK _ 17 = 0 from rfl) (by decide) rfl (c1_X0_hasFact _) rfl rfl (Nat.le_of_ble_eq_true rfl) ⟨Nat.le_of_ble_eq_true rfl, Nat.le_of_ble_eq_true rfl⟩ ⟨Nat.le_of_ble_eq_true rfl, Nat.le_of_ble_eq_true rfl⟩ ?_
  intro v5 s5 q5
  obtain ⟨rfl, rfl⟩ := q5
  refine zw_ifne (tgt := 21) dX5_trapped_8 (by decide) (fun c8 => absurd c8 (by decide)) (fun c8 => ?_)
  refine zw_throw (k := 2) ⟨by decide +kernel, 81, 194, 85, dX5_trapped_11, dX5_trapped_14, dX5_trapped_15, dX5_trapped_17, dX5_trapped_20, zThW_2 ⟨"no such fact", by decide +kernel⟩⟩ ⟨⟨Nat.le_of_ble_eq_true rfl, Nat.le_of_ble_eq_true rfl⟩, Nat.le_of_ble_eq_true rfl, Nat.le_of_ble_eq_true rfl⟩ ?_
  exact ⟨rfl, rfl⟩
set_option maxHeartbeats 4000000 in
set_option maxRecDepth 100000 in
theorem c1_X5_way {l : Launch} (hfl : l.stackTraces = false) {xs : Nat → Int32} (p q r : Int32) : zAX l zmX5_way 6 100 1 6 [.ref 1, .int p, .int q, .int r] (hF 6 xs) (fun v σ' => v = some (.float 2) ∧ σ' = (hF 6 xs)) := by
  refine zAX.of (by decide +kernel) (Nat.le_of_ble_eq_true rfl) hfl ?_
  refine zw_aload_n dX5_way_0 rfl ?_
  refine zw_getR dX5_way_1 zfX5_19 rfl (show zK _ 1 = 5 from rfl) (by decide) rfl ?_
  refine zw_iload_n dX5_way_4 rfl ?_
  refine zw_callV (y' := zmX3_hasState) dX5_way_5 zlX5_146 zmX3_hasState_ok (show zK _ 8 = 3 from rfl) (by decide) rfl (c1_X3_hasState _) rfl rfl (Nat.le_of_ble_eq_true rfl) ⟨Nat.le_of_ble_eq_true rfl, Nat.le_of_ble_eq_true rfl⟩ ⟨Nat.le_of_ble_eq_true rfl, Nat.le_of_ble_eq_true rfl⟩ ?_
  intro v5 s5 q5
  obtain ⟨rfl, rfl⟩ := q5
  refine zw_ifne (tgt := 21) dX5_way_8 (by decide) (fun c8 => absurd c8 (by decide)) (fun c8 => ?_)
  refine zw_throw (k := 2) ⟨by decide +kernel, 81, 149, 85, dX5_way_11, dX5_way_14, dX5_way_15, dX5_way_17, dX5_way_20, zThW_2 ⟨"no such state", by decide +kernel⟩⟩ ⟨⟨Nat.le_of_ble_eq_true rfl, Nat.le_of_ble_eq_true rfl⟩, Nat.le_of_ble_eq_true rfl, Nat.le_of_ble_eq_true rfl⟩ ?_
  exact ⟨rfl, rfl⟩
/-- what the law and the reference rest on behind one call of the class -/
def lSh (xs : Nat → Int32) (σ : zS) : Prop := zK σ 0 = 100 ∧ zK σ 1 = 5 ∧ zK σ 30 = 6 ∧ zK σ 31 = 100 ∧ zK σ 32 = 100 ∧ zK σ 33 = 100 ∧ zK σ 53 = 104 ∧ zL σ 0 = 6 ∧ zL σ 31 = 5 ∧ zL σ 32 = 4 ∧ zL σ 33 = 4 ∧ zL σ 53 = 1 ∧ zG σ 6 2 30 = some 31 ∧ zG σ 6 4 30 = some 32 ∧ zG σ 6 5 30 = some 33 ∧ zF σ 6 1 30 = 0 ∧ zF σ 6 3 30 = 0 ∧ zF σ 6 8 30 = 0 ∧ zF σ 6 10 30 = 0 ∧ zF σ 6 11 30 = 0 ∧ zI σ 0 = xs
theorem lk_0 {xs : Nat → Int32} {σ : zS} (h : lSh xs σ) : zK σ 0 = 100 := h.1
theorem lk_1 {xs : Nat → Int32} {σ : zS} (h : lSh xs σ) : zK σ 1 = 5 := h.2.1
theorem lk_30 {xs : Nat → Int32} {σ : zS} (h : lSh xs σ) : zK σ 30 = 6 := h.2.2.1
theorem lk_31 {xs : Nat → Int32} {σ : zS} (h : lSh xs σ) : zK σ 31 = 100 := h.2.2.2.1
theorem lk_32 {xs : Nat → Int32} {σ : zS} (h : lSh xs σ) : zK σ 32 = 100 := h.2.2.2.2.1
theorem lk_33 {xs : Nat → Int32} {σ : zS} (h : lSh xs σ) : zK σ 33 = 100 := h.2.2.2.2.2.1
theorem lk_53 {xs : Nat → Int32} {σ : zS} (h : lSh xs σ) : zK σ 53 = 104 := h.2.2.2.2.2.2.1
theorem ll_0 {xs : Nat → Int32} {σ : zS} (h : lSh xs σ) : zL σ 0 = 6 := h.2.2.2.2.2.2.2.1
theorem ll_31 {xs : Nat → Int32} {σ : zS} (h : lSh xs σ) : zL σ 31 = 5 := h.2.2.2.2.2.2.2.2.1
theorem ll_32 {xs : Nat → Int32} {σ : zS} (h : lSh xs σ) : zL σ 32 = 4 := h.2.2.2.2.2.2.2.2.2.1
theorem ll_33 {xs : Nat → Int32} {σ : zS} (h : lSh xs σ) : zL σ 33 = 4 := h.2.2.2.2.2.2.2.2.2.2.1
theorem ll_53 {xs : Nat → Int32} {σ : zS} (h : lSh xs σ) : zL σ 53 = 1 := h.2.2.2.2.2.2.2.2.2.2.2.1
theorem lg_2 {xs : Nat → Int32} {σ : zS} (h : lSh xs σ) : zG σ 6 2 30 = some 31 := h.2.2.2.2.2.2.2.2.2.2.2.2.1
theorem lg_4 {xs : Nat → Int32} {σ : zS} (h : lSh xs σ) : zG σ 6 4 30 = some 32 := h.2.2.2.2.2.2.2.2.2.2.2.2.2.1
theorem lg_5 {xs : Nat → Int32} {σ : zS} (h : lSh xs σ) : zG σ 6 5 30 = some 33 := h.2.2.2.2.2.2.2.2.2.2.2.2.2.2.1
theorem lf_1 {xs : Nat → Int32} {σ : zS} (h : lSh xs σ) : zF σ 6 1 30 = 0 := h.2.2.2.2.2.2.2.2.2.2.2.2.2.2.2.1
theorem lf_3 {xs : Nat → Int32} {σ : zS} (h : lSh xs σ) : zF σ 6 3 30 = 0 := h.2.2.2.2.2.2.2.2.2.2.2.2.2.2.2.2.1
theorem lf_8 {xs : Nat → Int32} {σ : zS} (h : lSh xs σ) : zF σ 6 8 30 = 0 := h.2.2.2.2.2.2.2.2.2.2.2.2.2.2.2.2.2.1
theorem lf_10 {xs : Nat → Int32} {σ : zS} (h : lSh xs σ) : zF σ 6 10 30 = 0 := h.2.2.2.2.2.2.2.2.2.2.2.2.2.2.2.2.2.2.1
theorem lf_11 {xs : Nat → Int32} {σ : zS} (h : lSh xs σ) : zF σ 6 11 30 = 0 := h.2.2.2.2.2.2.2.2.2.2.2.2.2.2.2.2.2.2.2.1
theorem lx_0 {xs : Nat → Int32} {σ : zS} (h : lSh xs σ) : zI σ 0 = xs := h.2.2.2.2.2.2.2.2.2.2.2.2.2.2.2.2.2.2.2.2
theorem lSh_pad {xs : Nat → Int32} {n : Nat} : lSh xs (zPad (hF 6 xs) n) := ⟨rfl, rfl, rfl, rfl, rfl, rfl, rfl, rfl, rfl, rfl, rfl, rfl, rfl, rfl, rfl, rfl, rfl, rfl, rfl, rfl, rfl⟩
theorem lSh_J {xs : Nat → Int32} {σ : zS} {a i : Nat} {x : Int64} (h : lSh xs σ) : lSh xs (zsJ σ a i x) := h
theorem lSh_F0 {xs : Nat → Int32} {σ : zS} {x : Int32} (h : lSh xs σ) : lSh xs (zsF σ 6 0 30 x) := ⟨lk_0 h, lk_1 h, lk_30 h, lk_31 h, lk_32 h, lk_33 h, lk_53 h, ll_0 h, ll_31 h, ll_32 h, ll_33 h, ll_53 h, lg_2 h, lg_4 h, lg_5 h, by rw [zF_zsF, if_neg (by decide)]; exact lf_1 h, by rw [zF_zsF, if_neg (by decide)]; exact lf_3 h, by rw [zF_zsF, if_neg (by decide)]; exact lf_8 h, by rw [zF_zsF, if_neg (by decide)]; exact lf_10 h, by rw [zF_zsF, if_neg (by decide)]; exact lf_11 h, lx_0 h⟩
theorem lSh_NP {xs : Nat → Int32} {x : Int32} : lSh xs (zsF (zsI (zsF (zsF (zsF (hF 6 xs) 3 8 8 0) 3 9 8 0) 3 10 8 0) 3 0 x) 2 5 2 1) := ⟨rfl, rfl, rfl, rfl, rfl, rfl, rfl, rfl, rfl, rfl, rfl, rfl, rfl, rfl, rfl, rfl, rfl, rfl, rfl, rfl, rfl⟩
theorem lSh_NV {xs : Nat → Int32} {x z : Int32} : lSh xs (zsF (zsI (zsI (zsF (zsF (zsF (hF 6 xs) 3 8 8 0) 3 9 8 0) 3 10 8 0) 6 0 x) 7 0 z) 2 6 2 1) := ⟨rfl, rfl, rfl, rfl, rfl, rfl, rfl, rfl, rfl, rfl, rfl, rfl, rfl, rfl, rfl, rfl, rfl, rfl, rfl, rfl, rfl⟩
theorem lSh_hF {xs : Nat → Int32} : lSh xs (hF 6 xs) := ⟨rfl, rfl, rfl, rfl, rfl, rfl, rfl, rfl, rfl, rfl, rfl, rfl, rfl, rfl, rfl, rfl, rfl, rfl, rfl, rfl, rfl⟩
set_option maxHeartbeats 4000000 in
set_option maxRecDepth 100000 in
theorem c1_X5_addProcess {l : Launch} (hfl : l.stackTraces = false) {xs : Nat → Int32} (p : Int32) : zAX l zmX5_addProcess 6 100 1 6 [.ref 1, .int p] (hF 6 xs) (fun v σ' => (v = some (.float 0) ∧ σ' = (hF 6 xs) ∧ ¬ (1 ≤ p ∧ p ≤ 8)) ∨ (v = some (.int 0) ∧ lSh xs σ' ∧ 1 ≤ p ∧ p ≤ 8)) := by
  refine zAX.of (by decide +kernel) (Nat.le_of_ble_eq_true rfl) hfl ?_
  refine zw_iload_n dX5_addProcess_0 rfl ?_
  refine zw_iconst (x := 1) dX5_addProcess_1 rfl ?_
  refine zw_bipush (x := 8) dX5_addProcess_2 rfl ?_
  refine zw_callS (y' := zmX5_isBetween) dX5_addProcess_4 zlX5_37 zmX5_isBetween_ok (c1_X5_isBetween _ _ _) rfl rfl (Nat.le_of_ble_eq_true rfl) ⟨Nat.le_of_ble_eq_true rfl, Nat.le_of_ble_eq_true rfl⟩ ⟨Nat.le_of_ble_eq_true rfl, Nat.le_of_ble_eq_true rfl⟩ ?_
  intro v4 s4 q4
  rcases q4 with ⟨⟨rfl, hb4⟩ | ⟨rfl, hb4⟩, rfl⟩
  · skip
    refine zw_ifne (tgt := 20) dX5_addProcess_7 (by decide) (fun c7 => ?_) (fun c7 => absurd c7 (by decide))
    refine zw_aload_n dX5_addProcess_20 rfl ?_
    refine zw_getR dX5_addProcess_21 zfX5_12 rfl (show zK _ 1 = 5 from rfl) (by decide) rfl ?_
    refine zw_getIv (x := 0) dX5_addProcess_24 zfX5_48 rfl (show zK _ 2 = 2 from rfl) (by decide) rfl ?_
    refine zw_iconst (x := 5) dX5_addProcess_27 rfl ?_
    refine zw_icmplt (tgt := 41) dX5_addProcess_28 (by decide) (fun c28 => ?_) (fun c28 => absurd c28 (by decide))
    refine zw_aload_n dX5_addProcess_41 rfl ?_
    refine zw_getR dX5_addProcess_42 zfX5_19 rfl (show zK _ 1 = 5 from rfl) (by decide) rfl ?_
    refine zw_callV (y' := zmX3_forget) dX5_addProcess_45 zlX5_57 zmX3_forget_ok (show zK _ 8 = 3 from rfl) (by decide) rfl c1_X3_forget rfl rfl (Nat.le_of_ble_eq_true rfl) ⟨Nat.le_of_ble_eq_true rfl, Nat.le_of_ble_eq_true rfl⟩ ⟨Nat.le_of_ble_eq_true rfl, Nat.le_of_ble_eq_true rfl⟩ ?_
    intro v45 s45 q45
    obtain ⟨rfl, rfl⟩ := q45
    refine zw_aload_n dX5_addProcess_48 rfl ?_
    refine zw_getR dX5_addProcess_49 zfX5_12 rfl (show zK _ 1 = 5 from rfl) (by decide) rfl ?_
    refine zw_iload_n dX5_addProcess_52 rfl ?_
    refine zw_callV (y' := zmX2_newProcess) dX5_addProcess_53 zlX5_60 zmX2_newProcess_ok (show zK _ 2 = 2 from rfl) (by decide) rfl (c1_X2_newProcess _) rfl rfl (Nat.le_of_ble_eq_true rfl) ⟨Nat.le_of_ble_eq_true rfl, Nat.le_of_ble_eq_true rfl⟩ ⟨Nat.le_of_ble_eq_true rfl, Nat.le_of_ble_eq_true rfl⟩ ?_
    intro v53 s53 q53
    obtain ⟨rfl, rfl⟩ := q53
    refine zw_iret dX5_addProcess_56 rfl rfl ?_
    exact Or.inr ⟨rfl, lSh_NP, hb4⟩
  · skip
    refine zw_ifne (tgt := 20) dX5_addProcess_7 (by decide) (fun c7 => absurd c7 (by decide)) (fun c7 => ?_)
    refine zw_throw (k := 0) ⟨by decide +kernel, 41, 43, 45, dX5_addProcess_10, dX5_addProcess_13, dX5_addProcess_14, dX5_addProcess_16, dX5_addProcess_19, zThW_0 ⟨"a process has 1 to 8 locations", by decide +kernel⟩⟩ ⟨⟨Nat.le_of_ble_eq_true rfl, Nat.le_of_ble_eq_true rfl⟩, Nat.le_of_ble_eq_true rfl, Nat.le_of_ble_eq_true rfl⟩ ?_
    exact Or.inl ⟨rfl, rfl, hb4⟩
set_option maxHeartbeats 4000000 in
set_option maxRecDepth 100000 in
theorem c1_X5_addVariable {l : Launch} (hfl : l.stackTraces = false) {xs : Nat → Int32} (p q : Int32) : zAX l zmX5_addVariable 6 100 1 6 [.ref 1, .int p, .int q] (hF 6 xs) (fun v σ' => (v = some (.float 0) ∧ σ' = (hF 6 xs) ∧ ¬ ((1 ≤ p ∧ p ≤ 9) ∧ 0 ≤ q ∧ q ≤ p)) ∨ (v = some (.int 0) ∧ lSh xs σ' ∧ (1 ≤ p ∧ p ≤ 9) ∧ 0 ≤ q ∧ q ≤ p)) := by
  refine zAX.of (by decide +kernel) (Nat.le_of_ble_eq_true rfl) hfl ?_
  refine zw_iload_n dX5_addVariable_0 rfl ?_
  refine zw_iconst (x := 1) dX5_addVariable_1 rfl ?_
  refine zw_bipush (x := 9) dX5_addVariable_2 rfl ?_
  refine zw_callS (y' := zmX5_isBetween) dX5_addVariable_4 zlX5_37 zmX5_isBetween_ok (c1_X5_isBetween _ _ _) rfl rfl (Nat.le_of_ble_eq_true rfl) ⟨Nat.le_of_ble_eq_true rfl, Nat.le_of_ble_eq_true rfl⟩ ⟨Nat.le_of_ble_eq_true rfl, Nat.le_of_ble_eq_true rfl⟩ ?_
  intro v4 s4 q4
  rcases q4 with ⟨⟨rfl, hb4⟩ | ⟨rfl, hb4⟩, rfl⟩
  · skip
    refine zw_ifne (tgt := 20) dX5_addVariable_7 (by decide) (fun c7 => ?_) (fun c7 => absurd c7 (by decide))
    refine zw_iload_n dX5_addVariable_20 rfl ?_
    refine zw_iconst (x := 0) dX5_addVariable_21 rfl ?_
    refine zw_iload_n dX5_addVariable_22 rfl ?_
    refine zw_callS (y' := zmX5_isBetween) dX5_addVariable_23 zlX5_37 zmX5_isBetween_ok (c1_X5_isBetween _ _ _) rfl rfl (Nat.le_of_ble_eq_true rfl) ⟨Nat.le_of_ble_eq_true rfl, Nat.le_of_ble_eq_true rfl⟩ ⟨Nat.le_of_ble_eq_true rfl, Nat.le_of_ble_eq_true rfl⟩ ?_
    intro v23 s23 q23
    rcases q23 with ⟨⟨rfl, hb23⟩ | ⟨rfl, hb23⟩, rfl⟩
    · skip
      refine zw_ifne (tgt := 39) dX5_addVariable_26 (by decide) (fun c26 => ?_) (fun c26 => absurd c26 (by decide))
      refine zw_aload_n dX5_addVariable_39 rfl ?_
      refine zw_getR dX5_addVariable_40 zfX5_12 rfl (show zK _ 1 = 5 from rfl) (by decide) rfl ?_
      refine zw_getIv (x := 0) dX5_addVariable_43 zfX5_68 rfl (show zK _ 2 = 2 from rfl) (by decide) rfl ?_
      refine zw_iconst (x := 4) dX5_addVariable_46 rfl ?_
      refine zw_icmplt (tgt := 60) dX5_addVariable_47 (by decide) (fun c47 => ?_) (fun c47 => absurd c47 (by decide))
      refine zw_aload_n dX5_addVariable_60 rfl ?_
      refine zw_getR dX5_addVariable_61 zfX5_19 rfl (show zK _ 1 = 5 from rfl) (by decide) rfl ?_
      refine zw_callV (y' := zmX3_forget) dX5_addVariable_64 zlX5_57 zmX3_forget_ok (show zK _ 8 = 3 from rfl) (by decide) rfl c1_X3_forget rfl rfl (Nat.le_of_ble_eq_true rfl) ⟨Nat.le_of_ble_eq_true rfl, Nat.le_of_ble_eq_true rfl⟩ ⟨Nat.le_of_ble_eq_true rfl, Nat.le_of_ble_eq_true rfl⟩ ?_
      intro v64 s64 q64
      obtain ⟨rfl, rfl⟩ := q64
      refine zw_aload_n dX5_addVariable_67 rfl ?_
      refine zw_getR dX5_addVariable_68 zfX5_12 rfl (show zK _ 1 = 5 from rfl) (by decide) rfl ?_
      refine zw_iload_n dX5_addVariable_71 rfl ?_
      refine zw_iload_n dX5_addVariable_72 rfl ?_
      refine zw_callV (y' := zmX2_newVariable) dX5_addVariable_73 zlX5_73 zmX2_newVariable_ok (show zK _ 2 = 2 from rfl) (by decide) rfl (c1_X2_newVariable _ _) rfl rfl (Nat.le_of_ble_eq_true rfl) ⟨Nat.le_of_ble_eq_true rfl, Nat.le_of_ble_eq_true rfl⟩ ⟨Nat.le_of_ble_eq_true rfl, Nat.le_of_ble_eq_true rfl⟩ ?_
      intro v73 s73 q73
      obtain ⟨rfl, rfl⟩ := q73
      refine zw_iret dX5_addVariable_76 rfl rfl ?_
      exact Or.inr ⟨rfl, lSh_NV, hb4, hb23⟩
    · skip
      refine zw_ifne (tgt := 39) dX5_addVariable_26 (by decide) (fun c26 => absurd c26 (by decide)) (fun c26 => ?_)
      refine zw_throw (k := 0) ⟨by decide +kernel, 41, 66, 45, dX5_addVariable_29, dX5_addVariable_32, dX5_addVariable_33, dX5_addVariable_35, dX5_addVariable_38, zThW_0 ⟨"a variable begins with 0 to its greatest value", by decide +kernel⟩⟩ ⟨⟨Nat.le_of_ble_eq_true rfl, Nat.le_of_ble_eq_true rfl⟩, Nat.le_of_ble_eq_true rfl, Nat.le_of_ble_eq_true rfl⟩ ?_
      exact Or.inl ⟨rfl, rfl, fun h => hb23 h.2⟩
  · skip
    refine zw_ifne (tgt := 20) dX5_addVariable_7 (by decide) (fun c7 => absurd c7 (by decide)) (fun c7 => ?_)
    refine zw_throw (k := 0) ⟨by decide +kernel, 41, 64, 45, dX5_addVariable_10, dX5_addVariable_13, dX5_addVariable_14, dX5_addVariable_16, dX5_addVariable_19, zThW_0 ⟨"a greatest value is 1 to 9", by decide +kernel⟩⟩ ⟨⟨Nat.le_of_ble_eq_true rfl, Nat.le_of_ble_eq_true rfl⟩, Nat.le_of_ble_eq_true rfl, Nat.le_of_ble_eq_true rfl⟩ ?_
    exact Or.inl ⟨rfl, rfl, fun h => hb4 h.1⟩
set_option maxHeartbeats 4000000 in
set_option maxRecDepth 100000 in
theorem c1_X5_count {l : Launch} (hfl : l.stackTraces = false) {xs : Nat → Int32} (p : Int32) : zAX l zmX5_count 6 100 1 6 [.ref 1, .int p] (hF 6 xs) (fun v σ' => (v = some (.float 2) ∧ σ' = (hF 6 xs) ∧ ¬ (0 ≤ p ∧ p ≤ 5)) ∨ (v = some (.int 0) ∧ lSh xs σ' ∧ 0 ≤ p ∧ p ≤ 5)) := by
  refine zAX.of (by decide +kernel) (Nat.le_of_ble_eq_true rfl) hfl ?_
  refine zw_iload_n dX5_count_0 rfl ?_
  refine zw_iconst (x := 0) dX5_count_1 rfl ?_
  refine zw_iconst (x := 5) dX5_count_2 rfl ?_
  refine zw_callS (y' := zmX5_isBetween) dX5_count_3 zlX5_37 zmX5_isBetween_ok (c1_X5_isBetween _ _ _) rfl rfl (Nat.le_of_ble_eq_true rfl) ⟨Nat.le_of_ble_eq_true rfl, Nat.le_of_ble_eq_true rfl⟩ ⟨Nat.le_of_ble_eq_true rfl, Nat.le_of_ble_eq_true rfl⟩ ?_
  intro v3 s3 q3
  rcases q3 with ⟨⟨rfl, hb3⟩ | ⟨rfl, hb3⟩, rfl⟩
  · skip
    refine zw_ifne (tgt := 19) dX5_count_6 (by decide) (fun c6 => ?_) (fun c6 => absurd c6 (by decide))
    refine zw_aload_n dX5_count_19 rfl ?_
    refine zw_iload_n dX5_count_20 rfl ?_
    refine zw_callV (y' := zmX5_amount) dX5_count_21 zlX5_136 zmX5_amount_ok (show zK _ 1 = 5 from rfl) (by decide) rfl (c1_X5_amount _) rfl rfl (Nat.le_of_ble_eq_true rfl) ⟨Nat.le_of_ble_eq_true rfl, Nat.le_of_ble_eq_true rfl⟩ ⟨Nat.le_of_ble_eq_true rfl, Nat.le_of_ble_eq_true rfl⟩ ?_
    intro v21 s21 q21
    obtain ⟨rfl, rfl⟩ := q21
    refine zw_iret dX5_count_24 rfl rfl ?_
    exact Or.inr ⟨rfl, lSh_hF, hb3⟩
  · skip
    refine zw_ifne (tgt := 19) dX5_count_6 (by decide) (fun c6 => absurd c6 (by decide)) (fun c6 => ?_)
    refine zw_throw (k := 2) ⟨by decide +kernel, 81, 134, 85, dX5_count_9, dX5_count_12, dX5_count_13, dX5_count_15, dX5_count_18, zThW_2 ⟨"what is 0 to 5", by decide +kernel⟩⟩ ⟨⟨Nat.le_of_ble_eq_true rfl, Nat.le_of_ble_eq_true rfl⟩, Nat.le_of_ble_eq_true rfl, Nat.le_of_ble_eq_true rfl⟩ ?_
    exact Or.inl ⟨rfl, rfl, hb3⟩
set_option maxHeartbeats 4000000 in
set_option maxRecDepth 100000 in
theorem c1_X5_branching {l : Launch} {xs : Nat → Int32}  : zAM l zmX5_branching 1 20 0 0 [.ref 1] (hF 6 xs) (fun v σ' => v = some (.double FP.dconst0) ∧ σ' = (hF 6 xs)) := by
  refine zAM.of (by decide +kernel) (Nat.le_of_ble_eq_true rfl) ?_
  refine zw_aload_n dX5_branching_0 rfl ?_
  refine zw_getR dX5_branching_1 zfX5_19 rfl (show zK _ 1 = 5 from rfl) (by decide) rfl ?_
  refine zw_callV (y' := zmX3_isExplored) dX5_branching_4 zlX5_199 zmX3_isExplored_ok (show zK _ 8 = 3 from rfl) (by decide) rfl c1_X3_isExplored rfl rfl (Nat.le_of_ble_eq_true rfl) ⟨Nat.le_of_ble_eq_true rfl, Nat.le_of_ble_eq_true rfl⟩ ⟨Nat.le_of_ble_eq_true rfl, Nat.le_of_ble_eq_true rfl⟩ ?_
  intro v4 s4 q4
  obtain ⟨rfl, rfl⟩ := q4
  refine zw_ifne (tgt := 12) dX5_branching_7 (by decide) (fun c7 => absurd c7 (by decide)) (fun c7 => ?_)
  refine zw_dconst0 dX5_branching_10 ?_
  refine zw_dret dX5_branching_11 rfl ?_
  exact ⟨rfl, rfl⟩
set_option maxHeartbeats 4000000 in
set_option maxRecDepth 100000 in
theorem c1_X5_digest {l : Launch} {xs : Nat → Int32}  : zAM l zmX5_digest 4 93 0 0 [.ref 1] (hF 6 xs) (fun v σ' => v = some (.long 352338961357) ∧ σ' = (hF 6 xs)) := by
  refine zAM.of (by decide +kernel) (Nat.le_of_ble_eq_true rfl) ?_
  refine zw_ldc2 (x := 397) dX5_digest_0 zk2X5_240 ?_
  refine zw_lstore_n dX5_digest_3 (by decide) rfl rfl ?_
  refine zw_iconst (x := 0) dX5_digest_4 rfl ?_
  refine zw_istore_n dX5_digest_5 (by decide) rfl ?_
  refine zw_iload_n dX5_digest_6 rfl ?_
  refine zw_bipush (x := 6) dX5_digest_7 rfl ?_
  refine zw_icmpge (tgt := 28) dX5_digest_9 (by decide) (fun c9 => absurd c9 (by decide)) (fun c9 => ?_)
  refine zw_lload_n dX5_digest_12 rfl ?_
  refine zw_aload_n dX5_digest_13 rfl ?_
  refine zw_iload_n dX5_digest_14 rfl ?_
  refine zw_callV (y' := zmX5_amount) dX5_digest_15 zlX5_136 zmX5_amount_ok (show zK _ 1 = 5 from rfl) (by decide) rfl (c1_X5_amount _) rfl rfl (Nat.le_of_ble_eq_true rfl) ⟨Nat.le_of_ble_eq_true rfl, Nat.le_of_ble_eq_true rfl⟩ ⟨Nat.le_of_ble_eq_true rfl, Nat.le_of_ble_eq_true rfl⟩ ?_
  intro v15 s15 q15
  obtain ⟨rfl, rfl⟩ := q15
  refine zw_callS (y' := zmX5_mixed) dX5_digest_18 zlX5_242 zmX5_mixed_ok (c1_X5_mixed _ _) rfl rfl (Nat.le_of_ble_eq_true rfl) ⟨Nat.le_of_ble_eq_true rfl, Nat.le_of_ble_eq_true rfl⟩ ⟨Nat.le_of_ble_eq_true rfl, Nat.le_of_ble_eq_true rfl⟩ ?_
  intro v18 s18 q18
  obtain ⟨rfl, rfl⟩ := q18
  refine zw_lstore_n dX5_digest_21 (by decide) rfl rfl ?_
  refine zw_iinc dX5_digest_22 rfl (by decide) rfl ?_
  refine zw_goto (tgt := 6) dX5_digest_25 (by decide) ?_
  refine zw_iload_n dX5_digest_6 rfl ?_
  refine zw_bipush (x := 6) dX5_digest_7 rfl ?_
  refine zw_icmpge (tgt := 28) dX5_digest_9 (by decide) (fun c9 => absurd c9 (by decide)) (fun c9 => ?_)
  refine zw_lload_n dX5_digest_12 rfl ?_
  refine zw_aload_n dX5_digest_13 rfl ?_
  refine zw_iload_n dX5_digest_14 rfl ?_
  refine zw_callV (y' := zmX5_amount) dX5_digest_15 zlX5_136 zmX5_amount_ok (show zK _ 1 = 5 from rfl) (by decide) rfl (c1_X5_amount _) rfl rfl (Nat.le_of_ble_eq_true rfl) ⟨Nat.le_of_ble_eq_true rfl, Nat.le_of_ble_eq_true rfl⟩ ⟨Nat.le_of_ble_eq_true rfl, Nat.le_of_ble_eq_true rfl⟩ ?_
  intro v15 s15 q15
  obtain ⟨rfl, rfl⟩ := q15
  refine zw_callS (y' := zmX5_mixed) dX5_digest_18 zlX5_242 zmX5_mixed_ok (c1_X5_mixed _ _) rfl rfl (Nat.le_of_ble_eq_true rfl) ⟨Nat.le_of_ble_eq_true rfl, Nat.le_of_ble_eq_true rfl⟩ ⟨Nat.le_of_ble_eq_true rfl, Nat.le_of_ble_eq_true rfl⟩ ?_
  intro v18 s18 q18
  obtain ⟨rfl, rfl⟩ := q18
  refine zw_lstore_n dX5_digest_21 (by decide) rfl rfl ?_
  refine zw_iinc dX5_digest_22 rfl (by decide) rfl ?_
  refine zw_goto (tgt := 6) dX5_digest_25 (by decide) ?_
  refine zw_iload_n dX5_digest_6 rfl ?_
  refine zw_bipush (x := 6) dX5_digest_7 rfl ?_
  refine zw_icmpge (tgt := 28) dX5_digest_9 (by decide) (fun c9 => absurd c9 (by decide)) (fun c9 => ?_)
  refine zw_lload_n dX5_digest_12 rfl ?_
  refine zw_aload_n dX5_digest_13 rfl ?_
  refine zw_iload_n dX5_digest_14 rfl ?_
  refine zw_callV (y' := zmX5_amount) dX5_digest_15 zlX5_136 zmX5_amount_ok (show zK _ 1 = 5 from rfl) (by decide) rfl (c1_X5_amount _) rfl rfl (Nat.le_of_ble_eq_true rfl) ⟨Nat.le_of_ble_eq_true rfl, Nat.le_of_ble_eq_true rfl⟩ ⟨Nat.le_of_ble_eq_true rfl, Nat.le_of_ble_eq_true rfl⟩ ?_
  intro v15 s15 q15
  obtain ⟨rfl, rfl⟩ := q15
  refine zw_callS (y' := zmX5_mixed) dX5_digest_18 zlX5_242 zmX5_mixed_ok (c1_X5_mixed _ _) rfl rfl (Nat.le_of_ble_eq_true rfl) ⟨Nat.le_of_ble_eq_true rfl, Nat.le_of_ble_eq_true rfl⟩ ⟨Nat.le_of_ble_eq_true rfl, Nat.le_of_ble_eq_true rfl⟩ ?_
  intro v18 s18 q18
  obtain ⟨rfl, rfl⟩ := q18
  refine zw_lstore_n dX5_digest_21 (by decide) rfl rfl ?_
  refine zw_iinc dX5_digest_22 rfl (by decide) rfl ?_
  refine zw_goto (tgt := 6) dX5_digest_25 (by decide) ?_
  refine zw_iload_n dX5_digest_6 rfl ?_
  refine zw_bipush (x := 6) dX5_digest_7 rfl ?_
  refine zw_icmpge (tgt := 28) dX5_digest_9 (by decide) (fun c9 => absurd c9 (by decide)) (fun c9 => ?_)
  refine zw_lload_n dX5_digest_12 rfl ?_
  refine zw_aload_n dX5_digest_13 rfl ?_
  refine zw_iload_n dX5_digest_14 rfl ?_
  refine zw_callV (y' := zmX5_amount) dX5_digest_15 zlX5_136 zmX5_amount_ok (show zK _ 1 = 5 from rfl) (by decide) rfl (c1_X5_amount _) rfl rfl (Nat.le_of_ble_eq_true rfl) ⟨Nat.le_of_ble_eq_true rfl, Nat.le_of_ble_eq_true rfl⟩ ⟨Nat.le_of_ble_eq_true rfl, Nat.le_of_ble_eq_true rfl⟩ ?_
  intro v15 s15 q15
  obtain ⟨rfl, rfl⟩ := q15
  refine zw_callS (y' := zmX5_mixed) dX5_digest_18 zlX5_242 zmX5_mixed_ok (c1_X5_mixed _ _) rfl rfl (Nat.le_of_ble_eq_true rfl) ⟨Nat.le_of_ble_eq_true rfl, Nat.le_of_ble_eq_true rfl⟩ ⟨Nat.le_of_ble_eq_true rfl, Nat.le_of_ble_eq_true rfl⟩ ?_
  intro v18 s18 q18
  obtain ⟨rfl, rfl⟩ := q18
  refine zw_lstore_n dX5_digest_21 (by decide) rfl rfl ?_
  refine zw_iinc dX5_digest_22 rfl (by decide) rfl ?_
  refine zw_goto (tgt := 6) dX5_digest_25 (by decide) ?_
  refine zw_iload_n dX5_digest_6 rfl ?_
  refine zw_bipush (x := 6) dX5_digest_7 rfl ?_
  refine zw_icmpge (tgt := 28) dX5_digest_9 (by decide) (fun c9 => absurd c9 (by decide)) (fun c9 => ?_)
  refine zw_lload_n dX5_digest_12 rfl ?_
  refine zw_aload_n dX5_digest_13 rfl ?_
  refine zw_iload_n dX5_digest_14 rfl ?_
  refine zw_callV (y' := zmX5_amount) dX5_digest_15 zlX5_136 zmX5_amount_ok (show zK _ 1 = 5 from rfl) (by decide) rfl (c1_X5_amount _) rfl rfl (Nat.le_of_ble_eq_true rfl) ⟨Nat.le_of_ble_eq_true rfl, Nat.le_of_ble_eq_true rfl⟩ ⟨Nat.le_of_ble_eq_true rfl, Nat.le_of_ble_eq_true rfl⟩ ?_
  intro v15 s15 q15
  obtain ⟨rfl, rfl⟩ := q15
  refine zw_callS (y' := zmX5_mixed) dX5_digest_18 zlX5_242 zmX5_mixed_ok (c1_X5_mixed _ _) rfl rfl (Nat.le_of_ble_eq_true rfl) ⟨Nat.le_of_ble_eq_true rfl, Nat.le_of_ble_eq_true rfl⟩ ⟨Nat.le_of_ble_eq_true rfl, Nat.le_of_ble_eq_true rfl⟩ ?_
  intro v18 s18 q18
  obtain ⟨rfl, rfl⟩ := q18
  refine zw_lstore_n dX5_digest_21 (by decide) rfl rfl ?_
  refine zw_iinc dX5_digest_22 rfl (by decide) rfl ?_
  refine zw_goto (tgt := 6) dX5_digest_25 (by decide) ?_
  refine zw_iload_n dX5_digest_6 rfl ?_
  refine zw_bipush (x := 6) dX5_digest_7 rfl ?_
  refine zw_icmpge (tgt := 28) dX5_digest_9 (by decide) (fun c9 => absurd c9 (by decide)) (fun c9 => ?_)
  refine zw_lload_n dX5_digest_12 rfl ?_
  refine zw_aload_n dX5_digest_13 rfl ?_
  refine zw_iload_n dX5_digest_14 rfl ?_
  refine zw_callV (y' := zmX5_amount) dX5_digest_15 zlX5_136 zmX5_amount_ok (show zK _ 1 = 5 from rfl) (by decide) rfl (c1_X5_amount _) rfl rfl (Nat.le_of_ble_eq_true rfl) ⟨Nat.le_of_ble_eq_true rfl, Nat.le_of_ble_eq_true rfl⟩ ⟨Nat.le_of_ble_eq_true rfl, Nat.le_of_ble_eq_true rfl⟩ ?_
  intro v15 s15 q15
  obtain ⟨rfl, rfl⟩ := q15
  refine zw_callS (y' := zmX5_mixed) dX5_digest_18 zlX5_242 zmX5_mixed_ok (c1_X5_mixed _ _) rfl rfl (Nat.le_of_ble_eq_true rfl) ⟨Nat.le_of_ble_eq_true rfl, Nat.le_of_ble_eq_true rfl⟩ ⟨Nat.le_of_ble_eq_true rfl, Nat.le_of_ble_eq_true rfl⟩ ?_
  intro v18 s18 q18
  obtain ⟨rfl, rfl⟩ := q18
  refine zw_lstore_n dX5_digest_21 (by decide) rfl rfl ?_
  refine zw_iinc dX5_digest_22 rfl (by decide) rfl ?_
  refine zw_goto (tgt := 6) dX5_digest_25 (by decide) ?_
  refine zw_iload_n dX5_digest_6 rfl ?_
  refine zw_bipush (x := 6) dX5_digest_7 rfl ?_
  refine zw_icmpge (tgt := 28) dX5_digest_9 (by decide) (fun c9 => ?_) (fun c9 => absurd c9 (by decide))
  refine zw_iconst (x := 0) dX5_digest_28 rfl ?_
  refine zw_istore_n dX5_digest_29 (by decide) rfl ?_
  refine zw_iload_n dX5_digest_30 rfl ?_
  refine zw_aload_n dX5_digest_31 rfl ?_
  refine zw_getR dX5_digest_32 zfX5_19 rfl (show zK _ 1 = 5 from rfl) (by decide) rfl ?_
  refine zw_getIv (x := 0) dX5_digest_35 zfX5_211 rfl (show zK _ 8 = 3 from rfl) (by decide) rfl ?_
  refine zw_icmpge (tgt := 54) dX5_digest_38 (by decide) (fun c38 => ?_) (fun c38 => absurd c38 (by decide))
  refine zw_aload_n dX5_digest_54 rfl ?_
  refine zw_getR dX5_digest_55 zfX5_19 rfl (show zK _ 1 = 5 from rfl) (by decide) rfl ?_
  refine zw_callV (y' := zmX3_isExplored) dX5_digest_58 zlX5_199 zmX3_isExplored_ok (show zK _ 8 = 3 from rfl) (by decide) rfl c1_X3_isExplored rfl rfl (Nat.le_of_ble_eq_true rfl) ⟨Nat.le_of_ble_eq_true rfl, Nat.le_of_ble_eq_true rfl⟩ ⟨Nat.le_of_ble_eq_true rfl, Nat.le_of_ble_eq_true rfl⟩ ?_
  intro v58 s58 q58
  obtain ⟨rfl, rfl⟩ := q58
  refine zw_ifeq (tgt := 93) dX5_digest_61 (by decide) (fun c61 => ?_) (fun c61 => absurd c61 (by decide))
  refine zw_lload_n dX5_digest_93 rfl ?_
  refine zw_lret dX5_digest_94 rfl ?_
  exact ⟨congrArg (fun z => some (Value.long z)) (by decide +kernel), rfl⟩
