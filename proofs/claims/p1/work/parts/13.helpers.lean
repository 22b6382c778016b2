/-! the law's helpers on the new object -/
set_option maxHeartbeats 4000000 in
set_option maxRecDepth 100000 in
theorem c1_L_addMove {l : Launch} (hfl : l.stackTraces = false) {xs : Nat → Int32} (p q r s : Int32) : zAH l zmL_addMove 7 124 1 6 [.ref 1, .int p, .int q, .int r, .int s, .ref 53] (hF 6 xs) (fun v σ' => v = some (.int 1) ∧ lSh xs σ') := by
  refine zAH.of (by decide +kernel) (Nat.le_of_ble_eq_true rfl) ?_
  refine zw_aload dL_addMove_0 rfl ?_
  refine zw_iconst (x := 0) dL_addMove_2 rfl ?_
  refine zw_aload_n dL_addMove_3 rfl ?_
  refine zw_iload_n dL_addMove_4 rfl ?_
  refine zw_iload_n dL_addMove_5 rfl ?_
  refine zw_iload_n dL_addMove_6 rfl ?_
  refine zw_iload dL_addMove_7 rfl ?_
  refine zw_callVX (y' := zmX5_addMove) dL_addMove_9 zlL_21 (by decide +kernel) zmX5_addMove_ok (show zK _ 1 = 5 from rfl) (by decide) rfl (c1_X5_addMove hfl _ _ _ _) rfl rfl (Nat.le_of_ble_eq_true rfl) ⟨Nat.le_of_ble_eq_true rfl, Nat.le_of_ble_eq_true rfl⟩ ⟨Nat.le_of_ble_eq_true rfl, Nat.le_of_ble_eq_true rfl⟩ ?_ ?_
  · intro v9 s9 q9 hnf
    exact absurd q9.1 (hnf _)
  · intro k9 s9 n9 q9
    obtain ⟨e, rfl⟩ := q9
    obtain rfl : k9 = 2 := by
      injection e with e
      injection e
    refine ⟨(0, 14, 17, 25), _, 6, 2, zHH_L_addMove, rfl, by decide, zcx_25, zca_2, (Or.inl ⟨rfl, dL_addMove_17⟩), by decide, ?_⟩
    refine zw_iconst (x := 1) dL_addMove_19 rfl ?_
    refine zw_iret dL_addMove_20 rfl rfl ?_
    exact ⟨rfl, lSh_pad⟩
set_option maxHeartbeats 4000000 in
set_option maxRecDepth 100000 in
theorem c1_L_guard {l : Launch} (hfl : l.stackTraces = false) {xs : Nat → Int32} (p q r s t : Int32) : zAH l zmL_guard 7 126 1 6 [.ref 1, .int p, .int q, .int r, .int s, .int t, .ref 53] (hF 6 xs) (fun v σ' => v = some (.int 1) ∧ lSh xs σ') := by
  refine zAH.of (by decide +kernel) (Nat.le_of_ble_eq_true rfl) ?_
  refine zw_aload dL_guard_0 rfl ?_
  refine zw_iconst (x := 0) dL_guard_2 rfl ?_
  refine zw_aload_n dL_guard_3 rfl ?_
  refine zw_iload_n dL_guard_4 rfl ?_
  refine zw_iload_n dL_guard_5 rfl ?_
  refine zw_iload_n dL_guard_6 rfl ?_
  refine zw_iload dL_guard_7 rfl ?_
  refine zw_iload dL_guard_9 rfl ?_
  refine zw_callVX (y' := zmX5_guard) dL_guard_11 zlL_27 (by decide +kernel) zmX5_guard_ok (show zK _ 1 = 5 from rfl) (by decide) rfl (c1_X5_guard hfl _ _ _ _ _) rfl rfl (Nat.le_of_ble_eq_true rfl) ⟨Nat.le_of_ble_eq_true rfl, Nat.le_of_ble_eq_true rfl⟩ ⟨Nat.le_of_ble_eq_true rfl, Nat.le_of_ble_eq_true rfl⟩ ?_ ?_
  · intro v11 s11 q11 hnf
    exact absurd q11.1 (hnf _)
  · intro k11 s11 n11 q11
    obtain ⟨e, rfl⟩ := q11
    obtain rfl : k11 = 2 := by
      injection e with e
      injection e
    refine ⟨(0, 16, 19, 25), _, 7, 2, zHH_L_guard, rfl, by decide, zcx_25, zca_2, (Or.inl ⟨rfl, dL_guard_19⟩), by decide, ?_⟩
    refine zw_iconst (x := 1) dL_guard_21 rfl ?_
    refine zw_iret dL_guard_22 rfl rfl ?_
    exact ⟨rfl, lSh_pad⟩
set_option maxHeartbeats 4000000 in
set_option maxRecDepth 100000 in
theorem c1_L_deed {l : Launch} (hfl : l.stackTraces = false) {xs : Nat → Int32} (p q r s t : Int32) : zAH l zmL_deed 7 126 1 6 [.ref 1, .int p, .int q, .int r, .int s, .int t, .ref 53] (hF 6 xs) (fun v σ' => v = some (.int 1) ∧ lSh xs σ') := by
  refine zAH.of (by decide +kernel) (Nat.le_of_ble_eq_true rfl) ?_
  refine zw_aload dL_deed_0 rfl ?_
  refine zw_iconst (x := 0) dL_deed_2 rfl ?_
  refine zw_aload_n dL_deed_3 rfl ?_
  refine zw_iload_n dL_deed_4 rfl ?_
  refine zw_iload_n dL_deed_5 rfl ?_
  refine zw_iload_n dL_deed_6 rfl ?_
  refine zw_iload dL_deed_7 rfl ?_
  refine zw_iload dL_deed_9 rfl ?_
  refine zw_callVX (y' := zmX5_deed) dL_deed_11 zlL_31 (by decide +kernel) zmX5_deed_ok (show zK _ 1 = 5 from rfl) (by decide) rfl (c1_X5_deed hfl _ _ _ _ _) rfl rfl (Nat.le_of_ble_eq_true rfl) ⟨Nat.le_of_ble_eq_true rfl, Nat.le_of_ble_eq_true rfl⟩ ⟨Nat.le_of_ble_eq_true rfl, Nat.le_of_ble_eq_true rfl⟩ ?_ ?_
  · intro v11 s11 q11 hnf
    exact absurd q11.1 (hnf _)
  · intro k11 s11 n11 q11
    obtain ⟨e, rfl⟩ := q11
    obtain rfl : k11 = 2 := by
      injection e with e
      injection e
    refine ⟨(0, 16, 19, 25), _, 7, 2, zHH_L_deed, rfl, by decide, zcx_25, zca_2, (Or.inl ⟨rfl, dL_deed_19⟩), by decide, ?_⟩
    refine zw_iconst (x := 1) dL_deed_21 rfl ?_
    refine zw_iret dL_deed_22 rfl rfl ?_
    exact ⟨rfl, lSh_pad⟩
set_option maxHeartbeats 4000000 in
set_option maxRecDepth 100000 in
theorem c1_L_explore {l : Launch} (hfl : l.stackTraces = false) {xs : Nat → Int32}  : zAH l zmL_explore 7 183 1 6 [.ref 1, .ref 53] (hF 6 xs) (fun v σ' => v = some (.int 1) ∧ lSh xs σ') := by
  refine zAH.of (by decide +kernel) (Nat.le_of_ble_eq_true rfl) ?_
  refine zw_aload_n dL_explore_0 rfl ?_
  refine zw_iconst (x := 0) dL_explore_1 rfl ?_
  refine zw_aload_n dL_explore_2 rfl ?_
  refine zw_callVX (y' := zmX5_explore) dL_explore_3 zlL_37 (by decide +kernel) zmX5_explore_ok (show zK _ 1 = 5 from rfl) (by decide) rfl (c1_X5_explore hfl) rfl rfl (Nat.le_of_ble_eq_true rfl) ⟨Nat.le_of_ble_eq_true rfl, Nat.le_of_ble_eq_true rfl⟩ ⟨Nat.le_of_ble_eq_true rfl, Nat.le_of_ble_eq_true rfl⟩ ?_ ?_
  · intro v3 s3 q3 hnf
    exact absurd q3.1 (hnf _)
  · intro k3 s3 n3 q3
    obtain ⟨e, rfl⟩ := q3
    obtain rfl : k3 = 1 := by
      injection e with e
      injection e
    refine ⟨(0, 8, 11, 15), _, 2, 1, zHH_L_explore, rfl, by decide, zcx_15, zca_1, (Or.inr ⟨rfl, 2, rfl, dL_explore_11⟩), by decide, ?_⟩
    refine zw_iconst (x := 1) dL_explore_12 rfl ?_
    refine zw_iret dL_explore_13 rfl rfl ?_
    exact ⟨rfl, lSh_pad⟩
set_option maxHeartbeats 4000000 in
set_option maxRecDepth 100000 in
theorem c1_L_state {l : Launch} (hfl : l.stackTraces = false) {xs : Nat → Int32} (p q : Int32) : zAH l zmL_state 7 122 1 6 [.ref 1, .int p, .int q, .ref 53] (hF 6 xs) (fun v σ' => v = some (.int 1) ∧ lSh xs σ') := by
  refine zAH.of (by decide +kernel) (Nat.le_of_ble_eq_true rfl) ?_
  refine zw_aload_n dL_state_0 rfl ?_
  refine zw_iconst (x := 0) dL_state_1 rfl ?_
  refine zw_aload_n dL_state_2 rfl ?_
  refine zw_iload_n dL_state_3 rfl ?_
  refine zw_iload_n dL_state_4 rfl ?_
  refine zw_callVX (y' := zmX5_state) dL_state_5 zlL_41 (by decide +kernel) zmX5_state_ok (show zK _ 1 = 5 from rfl) (by decide) rfl (c1_X5_state hfl _ _) rfl rfl (Nat.le_of_ble_eq_true rfl) ⟨Nat.le_of_ble_eq_true rfl, Nat.le_of_ble_eq_true rfl⟩ ⟨Nat.le_of_ble_eq_true rfl, Nat.le_of_ble_eq_true rfl⟩ ?_ ?_
  · intro v5 s5 q5 hnf
    exact absurd q5.1 (hnf _)
  · intro k5 s5 n5 q5
    obtain ⟨e, rfl⟩ := q5
    obtain rfl : k5 = 2 := by
      injection e with e
      injection e
    refine ⟨(0, 10, 13, 25), _, 4, 2, zHH_L_state, rfl, by decide, zcx_25, zca_2, (Or.inl ⟨rfl, dL_state_13⟩), by decide, ?_⟩
    refine zw_iconst (x := 1) dL_state_15 rfl ?_
    refine zw_iret dL_state_16 rfl rfl ?_
    exact ⟨rfl, lSh_pad⟩
set_option maxHeartbeats 4000000 in
set_option maxRecDepth 100000 in
theorem c1_L_step {l : Launch} (hfl : l.stackTraces = false) {xs : Nat → Int32} (p q r : Int32) : zAH l zmL_step 7 123 1 6 [.ref 1, .int p, .int q, .int r, .ref 53] (hF 6 xs) (fun v σ' => v = some (.int 1) ∧ lSh xs σ') := by
  refine zAH.of (by decide +kernel) (Nat.le_of_ble_eq_true rfl) ?_
  refine zw_aload dL_step_0 rfl ?_
  refine zw_iconst (x := 0) dL_step_2 rfl ?_
  refine zw_aload_n dL_step_3 rfl ?_
  refine zw_iload_n dL_step_4 rfl ?_
  refine zw_iload_n dL_step_5 rfl ?_
  refine zw_iload_n dL_step_6 rfl ?_
  refine zw_callVX (y' := zmX5_step) dL_step_7 zlL_44 (by decide +kernel) zmX5_step_ok (show zK _ 1 = 5 from rfl) (by decide) rfl (c1_X5_step hfl _ _ _) rfl rfl (Nat.le_of_ble_eq_true rfl) ⟨Nat.le_of_ble_eq_true rfl, Nat.le_of_ble_eq_true rfl⟩ ⟨Nat.le_of_ble_eq_true rfl, Nat.le_of_ble_eq_true rfl⟩ ?_ ?_
  · intro v7 s7 q7 hnf
    exact absurd q7.1 (hnf _)
  · intro k7 s7 n7 q7
    obtain ⟨e, rfl⟩ := q7
    obtain rfl : k7 = 2 := by
      injection e with e
      injection e
    refine ⟨(0, 12, 15, 25), _, 5, 2, zHH_L_step, rfl, by decide, zcx_25, zca_2, (Or.inl ⟨rfl, dL_step_15⟩), by decide, ?_⟩
    refine zw_iconst (x := 1) dL_step_17 rfl ?_
    refine zw_iret dL_step_18 rfl rfl ?_
    exact ⟨rfl, lSh_pad⟩
set_option maxHeartbeats 4000000 in
set_option maxRecDepth 100000 in
theorem c1_L_addFact {l : Launch} (hfl : l.stackTraces = false) {xs : Nat → Int32} (p q r : Int32) : zAH l zmL_addFact 7 123 1 6 [.ref 1, .int p, .int q, .int r, .ref 53] (hF 6 xs) (fun v σ' => v = some (.int 1) ∧ lSh xs σ') := by
  refine zAH.of (by decide +kernel) (Nat.le_of_ble_eq_true rfl) ?_
  refine zw_aload dL_addFact_0 rfl ?_
  refine zw_iconst (x := 0) dL_addFact_2 rfl ?_
  refine zw_aload_n dL_addFact_3 rfl ?_
  refine zw_iload_n dL_addFact_4 rfl ?_
  refine zw_iload_n dL_addFact_5 rfl ?_
  refine zw_iload_n dL_addFact_6 rfl ?_
  refine zw_callVX (y' := zmX5_addFact) dL_addFact_7 zlL_48 (by decide +kernel) zmX5_addFact_ok (show zK _ 1 = 5 from rfl) (by decide) rfl (c1_X5_addFact hfl _ _ _) rfl rfl (Nat.le_of_ble_eq_true rfl) ⟨Nat.le_of_ble_eq_true rfl, Nat.le_of_ble_eq_true rfl⟩ ⟨Nat.le_of_ble_eq_true rfl, Nat.le_of_ble_eq_true rfl⟩ ?_ ?_
  · intro v7 s7 q7 hnf
    exact absurd q7.1 (hnf _)
  · intro k7 s7 n7 q7
    obtain ⟨e, rfl⟩ := q7
    obtain rfl : k7 = 0 := by
      injection e with e
      injection e
    refine ⟨(0, 12, 15, 13), _, 5, 2, zHH_L_addFact, rfl, by decide, zcx_13, zca_0, (Or.inl ⟨rfl, dL_addFact_15⟩), by decide, ?_⟩
    refine zw_iconst (x := 1) dL_addFact_17 rfl ?_
    refine zw_iret dL_addFact_18 rfl rfl ?_
    exact ⟨rfl, lSh_pad⟩
set_option maxHeartbeats 4000000 in
set_option maxRecDepth 100000 in
theorem c1_L_holds {l : Launch} (hfl : l.stackTraces = false) {xs : Nat → Int32} (p q : Int32) : zAH l zmL_holds 7 122 1 6 [.ref 1, .int p, .int q, .ref 53] (hF 6 xs) (fun v σ' => v = some (.int 1) ∧ lSh xs σ') := by
  refine zAH.of (by decide +kernel) (Nat.le_of_ble_eq_true rfl) ?_
  refine zw_aload_n dL_holds_0 rfl ?_
  refine zw_iconst (x := 0) dL_holds_1 rfl ?_
  refine zw_aload_n dL_holds_2 rfl ?_
  refine zw_iload_n dL_holds_3 rfl ?_
  refine zw_iload_n dL_holds_4 rfl ?_
  refine zw_callVX (y' := zmX5_holds) dL_holds_5 zlL_51 (by decide +kernel) zmX5_holds_ok (show zK _ 1 = 5 from rfl) (by decide) rfl (c1_X5_holds hfl _ _) rfl rfl (Nat.le_of_ble_eq_true rfl) ⟨Nat.le_of_ble_eq_true rfl, Nat.le_of_ble_eq_true rfl⟩ ⟨Nat.le_of_ble_eq_true rfl, Nat.le_of_ble_eq_true rfl⟩ ?_ ?_
  · intro v5 s5 q5 hnf
    exact absurd q5.1 (hnf _)
  · intro k5 s5 n5 q5
    obtain ⟨e, rfl⟩ := q5
    obtain rfl : k5 = 2 := by
      injection e with e
      injection e
    refine ⟨(0, 17, 20, 25), _, 4, 2, zHH_L_holds, rfl, by decide, zcx_25, zca_2, (Or.inl ⟨rfl, dL_holds_20⟩), by decide, ?_⟩
    refine zw_iconst (x := 1) dL_holds_22 rfl ?_
    refine zw_iret dL_holds_23 rfl rfl ?_
    exact ⟨rfl, lSh_pad⟩
set_option maxHeartbeats 4000000 in
set_option maxRecDepth 100000 in
theorem c1_L_where {l : Launch} (hfl : l.stackTraces = false) {xs : Nat → Int32} (p q : Int32) : zAH l zmL_where 7 122 1 6 [.ref 1, .int p, .int q, .ref 53] (hF 6 xs) (fun v σ' => v = some (.int 1) ∧ lSh xs σ') := by
  refine zAH.of (by decide +kernel) (Nat.le_of_ble_eq_true rfl) ?_
  refine zw_aload_n dL_where_0 rfl ?_
  refine zw_iconst (x := 0) dL_where_1 rfl ?_
  refine zw_aload_n dL_where_2 rfl ?_
  refine zw_iload_n dL_where_3 rfl ?_
  refine zw_iload_n dL_where_4 rfl ?_
  refine zw_callVX (y' := zmX5_where) dL_where_5 zlL_55 (by decide +kernel) zmX5_where_ok (show zK _ 1 = 5 from rfl) (by decide) rfl (c1_X5_where hfl _ _) rfl rfl (Nat.le_of_ble_eq_true rfl) ⟨Nat.le_of_ble_eq_true rfl, Nat.le_of_ble_eq_true rfl⟩ ⟨Nat.le_of_ble_eq_true rfl, Nat.le_of_ble_eq_true rfl⟩ ?_ ?_
  · intro v5 s5 q5 hnf
    exact absurd q5.1 (hnf _)
  · intro k5 s5 n5 q5
    obtain ⟨e, rfl⟩ := q5
    obtain rfl : k5 = 2 := by
      injection e with e
      injection e
    refine ⟨(0, 10, 13, 25), _, 4, 2, zHH_L_where, rfl, by decide, zcx_25, zca_2, (Or.inl ⟨rfl, dL_where_13⟩), by decide, ?_⟩
    refine zw_iconst (x := 1) dL_where_15 rfl ?_
    refine zw_iret dL_where_16 rfl rfl ?_
    exact ⟨rfl, lSh_pad⟩
set_option maxHeartbeats 4000000 in
set_option maxRecDepth 100000 in
theorem c1_L_stuck {l : Launch} (hfl : l.stackTraces = false) {xs : Nat → Int32}  : zAH l zmL_stuck 7 121 1 6 [.ref 1, .ref 53] (hF 6 xs) (fun v σ' => v = some (.int 1) ∧ lSh xs σ') := by
  refine zAH.of (by decide +kernel) (Nat.le_of_ble_eq_true rfl) ?_
  refine zw_aload_n dL_stuck_0 rfl ?_
  refine zw_iconst (x := 0) dL_stuck_1 rfl ?_
  refine zw_aload_n dL_stuck_2 rfl ?_
  refine zw_callVX (y' := zmX5_stuck) dL_stuck_3 zlL_59 (by decide +kernel) zmX5_stuck_ok (show zK _ 1 = 5 from rfl) (by decide) rfl (c1_X5_stuck hfl) rfl rfl (Nat.le_of_ble_eq_true rfl) ⟨Nat.le_of_ble_eq_true rfl, Nat.le_of_ble_eq_true rfl⟩ ⟨Nat.le_of_ble_eq_true rfl, Nat.le_of_ble_eq_true rfl⟩ ?_ ?_
  · intro v3 s3 q3 hnf
    exact absurd q3.1 (hnf _)
  · intro k3 s3 n3 q3
    obtain ⟨e, rfl⟩ := q3
    obtain rfl : k3 = 1 := by
      injection e with e
      injection e
    refine ⟨(0, 8, 11, 15), _, 2, 1, zHH_L_stuck, rfl, by decide, zcx_15, zca_1, (Or.inr ⟨rfl, 2, rfl, dL_stuck_11⟩), by decide, ?_⟩
    refine zw_iconst (x := 1) dL_stuck_12 rfl ?_
    refine zw_iret dL_stuck_13 rfl rfl ?_
    exact ⟨rfl, lSh_pad⟩
set_option maxHeartbeats 4000000 in
set_option maxRecDepth 100000 in
theorem c1_L_leads {l : Launch} (hfl : l.stackTraces = false) {xs : Nat → Int32} (p q : Int32) : zAH l zmL_leads 7 171 1 6 [.ref 1, .int p, .int q, .ref 53] (hF 6 xs) (fun v σ' => v = some (.int 1) ∧ lSh xs σ') := by
  refine zAH.of (by decide +kernel) (Nat.le_of_ble_eq_true rfl) ?_
  refine zw_aload_n dL_leads_0 rfl ?_
  refine zw_iconst (x := 0) dL_leads_1 rfl ?_
  refine zw_aload_n dL_leads_2 rfl ?_
  refine zw_iload_n dL_leads_3 rfl ?_
  refine zw_iload_n dL_leads_4 rfl ?_
  refine zw_callVX (y' := zmX5_leads) dL_leads_5 zlL_62 (by decide +kernel) zmX5_leads_ok (show zK _ 1 = 5 from rfl) (by decide) rfl (c1_X5_leads hfl _ _) rfl rfl (Nat.le_of_ble_eq_true rfl) ⟨Nat.le_of_ble_eq_true rfl, Nat.le_of_ble_eq_true rfl⟩ ⟨Nat.le_of_ble_eq_true rfl, Nat.le_of_ble_eq_true rfl⟩ ?_ ?_
  · intro v5 s5 q5 hnf
    exact absurd q5.1 (hnf _)
  · intro k5 s5 n5 q5
    obtain ⟨e, rfl⟩ := q5
    obtain rfl : k5 = 2 := by
      injection e with e
      injection e
    refine ⟨(0, 10, 13, 25), _, 4, 2, zHH_L_leads, rfl, by decide, zcx_25, zca_2, (Or.inl ⟨rfl, dL_leads_13⟩), by decide, ?_⟩
    refine zw_iconst (x := 1) dL_leads_15 rfl ?_
    refine zw_iret dL_leads_16 rfl rfl ?_
    exact ⟨rfl, lSh_pad⟩
set_option maxHeartbeats 4000000 in
set_option maxRecDepth 100000 in
theorem c1_L_isBad {l : Launch} (hfl : l.stackTraces = false) {xs : Nat → Int32} (p q : Int32) : zAH l zmL_isBad 7 170 1 6 [.ref 1, .int p, .int q, .ref 53] (hF 6 xs) (fun v σ' => v = some (.int 1) ∧ lSh xs σ') := by
  refine zAH.of (by decide +kernel) (Nat.le_of_ble_eq_true rfl) ?_
  refine zw_aload_n dL_isBad_0 rfl ?_
  refine zw_iconst (x := 0) dL_isBad_1 rfl ?_
  refine zw_aload_n dL_isBad_2 rfl ?_
  refine zw_iload_n dL_isBad_3 rfl ?_
  refine zw_iload_n dL_isBad_4 rfl ?_
  refine zw_callVX (y' := zmX5_isBad) dL_isBad_5 zlL_65 (by decide +kernel) zmX5_isBad_ok (show zK _ 1 = 5 from rfl) (by decide) rfl (c1_X5_isBad hfl _ _) rfl rfl (Nat.le_of_ble_eq_true rfl) ⟨Nat.le_of_ble_eq_true rfl, Nat.le_of_ble_eq_true rfl⟩ ⟨Nat.le_of_ble_eq_true rfl, Nat.le_of_ble_eq_true rfl⟩ ?_ ?_
  · intro v5 s5 q5 hnf
    exact absurd q5.1 (hnf _)
  · intro k5 s5 n5 q5
    obtain ⟨e, rfl⟩ := q5
    obtain rfl : k5 = 2 := by
      injection e with e
      injection e
    refine ⟨(0, 17, 20, 25), _, 4, 2, zHH_L_isBad, rfl, by decide, zcx_25, zca_2, (Or.inl ⟨rfl, dL_isBad_20⟩), by decide, ?_⟩
    refine zw_iconst (x := 1) dL_isBad_22 rfl ?_
    refine zw_iret dL_isBad_23 rfl rfl ?_
    exact ⟨rfl, lSh_pad⟩
set_option maxHeartbeats 4000000 in
set_option maxRecDepth 100000 in
theorem c1_L_trapped {l : Launch} (hfl : l.stackTraces = false) {xs : Nat → Int32} (p : Int32) : zAH l zmL_trapped 7 169 1 6 [.ref 1, .int p, .ref 53] (hF 6 xs) (fun v σ' => v = some (.int 1) ∧ lSh xs σ') := by
  refine zAH.of (by decide +kernel) (Nat.le_of_ble_eq_true rfl) ?_
  refine zw_aload_n dL_trapped_0 rfl ?_
  refine zw_iconst (x := 0) dL_trapped_1 rfl ?_
  refine zw_aload_n dL_trapped_2 rfl ?_
  refine zw_iload_n dL_trapped_3 rfl ?_
  refine zw_callVX (y' := zmX5_trapped) dL_trapped_4 zlL_68 (by decide +kernel) zmX5_trapped_ok (show zK _ 1 = 5 from rfl) (by decide) rfl (c1_X5_trapped hfl _) rfl rfl (Nat.le_of_ble_eq_true rfl) ⟨Nat.le_of_ble_eq_true rfl, Nat.le_of_ble_eq_true rfl⟩ ⟨Nat.le_of_ble_eq_true rfl, Nat.le_of_ble_eq_true rfl⟩ ?_ ?_
  · intro v4 s4 q4 hnf
    exact absurd q4.1 (hnf _)
  · intro k4 s4 n4 q4
    obtain ⟨e, rfl⟩ := q4
    obtain rfl : k4 = 2 := by
      injection e with e
      injection e
    refine ⟨(0, 9, 12, 25), _, 3, 1, zHH_L_trapped, rfl, by decide, zcx_25, zca_2, (Or.inr ⟨rfl, 3, rfl, dL_trapped_12⟩), by decide, ?_⟩
    refine zw_iconst (x := 1) dL_trapped_13 rfl ?_
    refine zw_iret dL_trapped_14 rfl rfl ?_
    exact ⟨rfl, lSh_pad⟩
set_option maxHeartbeats 4000000 in
set_option maxRecDepth 100000 in
theorem c1_L_way {l : Launch} (hfl : l.stackTraces = false) {xs : Nat → Int32} (p q r : Int32) : zAH l zmL_way 7 124 1 6 [.ref 1, .int p, .int q, .int r, .ref 53] (hF 6 xs) (fun v σ' => v = some (.int 1) ∧ lSh xs σ') := by
  refine zAH.of (by decide +kernel) (Nat.le_of_ble_eq_true rfl) ?_
  refine zw_aload dL_way_0 rfl ?_
  refine zw_iconst (x := 0) dL_way_2 rfl ?_
  refine zw_aload_n dL_way_3 rfl ?_
  refine zw_iload_n dL_way_4 rfl ?_
  refine zw_iload_n dL_way_5 rfl ?_
  refine zw_iload_n dL_way_6 rfl ?_
  refine zw_callVX (y' := zmX5_way) dL_way_7 zlL_71 (by decide +kernel) zmX5_way_ok (show zK _ 1 = 5 from rfl) (by decide) rfl (c1_X5_way hfl _ _ _) rfl rfl (Nat.le_of_ble_eq_true rfl) ⟨Nat.le_of_ble_eq_true rfl, Nat.le_of_ble_eq_true rfl⟩ ⟨Nat.le_of_ble_eq_true rfl, Nat.le_of_ble_eq_true rfl⟩ ?_ ?_
  · intro v7 s7 q7 hnf
    exact absurd q7.1 (hnf _)
  · intro k7 s7 n7 q7
    obtain ⟨e, rfl⟩ := q7
    obtain rfl : k7 = 2 := by
      injection e with e
      injection e
    refine ⟨(0, 12, 15, 25), _, 5, 2, zHH_L_way, rfl, by decide, zcx_25, zca_2, (Or.inl ⟨rfl, dL_way_15⟩), by decide, ?_⟩
    refine zw_iconst (x := 1) dL_way_17 rfl ?_
    refine zw_iret dL_way_18 rfl rfl ?_
    exact ⟨rfl, lSh_pad⟩
set_option maxHeartbeats 4000000 in
set_option maxRecDepth 100000 in
theorem c1_L_addProcess {l : Launch} (hfl : l.stackTraces = false) {xs : Nat → Int32} (p : Int32) : zAH l zmL_addProcess 7 121 1 6 [.ref 1, .int p, .ref 53] (hF 6 xs) (fun v σ' => (v = some (.int 1) ∧ lSh xs σ' ∧ ¬ (1 ≤ p ∧ p ≤ 8)) ∨ (v = some (.int 0) ∧ lSh xs σ' ∧ zJ σ' 53 0 = 0 ∧ 1 ≤ p ∧ p ≤ 8)) := by
  refine zAH.of (by decide +kernel) (Nat.le_of_ble_eq_true rfl) ?_
  refine zw_aload_n dL_addProcess_0 rfl ?_
  refine zw_iconst (x := 0) dL_addProcess_1 rfl ?_
  refine zw_aload_n dL_addProcess_2 rfl ?_
  refine zw_iload_n dL_addProcess_3 rfl ?_
  refine zw_callVX (y' := zmX5_addProcess) dL_addProcess_4 zlL_7 (by decide +kernel) zmX5_addProcess_ok (show zK _ 1 = 5 from rfl) (by decide) rfl (c1_X5_addProcess hfl _) rfl rfl (Nat.le_of_ble_eq_true rfl) ⟨Nat.le_of_ble_eq_true rfl, Nat.le_of_ble_eq_true rfl⟩ ⟨Nat.le_of_ble_eq_true rfl, Nat.le_of_ble_eq_true rfl⟩ ?_ ?_
  · intro v4 s4 q4 hnf
    rcases q4 with ⟨e, -, -⟩ | ⟨rfl, hl, hc⟩
    · exact absurd e (hnf _)
    refine zw_i2l dL_addProcess_7 ?_
    refine zw_lastore (t := 4) dL_addProcess_8 (lk_53 hl) rfl (by decide) (zin_of (ll_53 hl) (by unfold vp_in; decide)) ?_
    refine zw_goto (tgt := 18) dL_addProcess_9 (by decide) ?_
    refine zw_iconst (x := 0) dL_addProcess_18 rfl ?_
    refine zw_iret dL_addProcess_19 rfl rfl ?_
    exact Or.inr ⟨rfl, lSh_J hl, rfl, hc⟩
  · intro k4 s4 n4 q4
    rcases q4 with ⟨e, rfl, hc⟩ | ⟨e, -⟩
    rotate_left
    · cases e
    obtain rfl : k4 = 0 := by
      injection e with e
      injection e
    refine ⟨(0, 9, 12, 13), _, 3, 1, zHH_L_addProcess, rfl, by decide, zcx_13, zca_0, (Or.inr ⟨rfl, 3, rfl, dL_addProcess_12⟩), by decide, ?_⟩
    refine zw_iconst (x := 1) dL_addProcess_13 rfl ?_
    refine zw_iret dL_addProcess_14 rfl rfl ?_
    exact Or.inl ⟨rfl, lSh_pad, hc⟩
set_option maxHeartbeats 4000000 in
set_option maxRecDepth 100000 in
theorem c1_L_addVariable {l : Launch} (hfl : l.stackTraces = false) {xs : Nat → Int32} (p q : Int32) : zAH l zmL_addVariable 7 122 1 6 [.ref 1, .int p, .int q, .ref 53] (hF 6 xs) (fun v σ' => (v = some (.int 1) ∧ lSh xs σ' ∧ ¬ ((1 ≤ p ∧ p ≤ 9) ∧ 0 ≤ q ∧ q ≤ p)) ∨ (v = some (.int 0) ∧ lSh xs σ' ∧ zJ σ' 53 0 = 0 ∧ (1 ≤ p ∧ p ≤ 9) ∧ 0 ≤ q ∧ q ≤ p)) := by
  refine zAH.of (by decide +kernel) (Nat.le_of_ble_eq_true rfl) ?_
  refine zw_aload_n dL_addVariable_0 rfl ?_
  refine zw_iconst (x := 0) dL_addVariable_1 rfl ?_
  refine zw_aload_n dL_addVariable_2 rfl ?_
  refine zw_iload_n dL_addVariable_3 rfl ?_
  refine zw_iload_n dL_addVariable_4 rfl ?_
  refine zw_callVX (y' := zmX5_addVariable) dL_addVariable_5 zlL_17 (by decide +kernel) zmX5_addVariable_ok (show zK _ 1 = 5 from rfl) (by decide) rfl (c1_X5_addVariable hfl _ _) rfl rfl (Nat.le_of_ble_eq_true rfl) ⟨Nat.le_of_ble_eq_true rfl, Nat.le_of_ble_eq_true rfl⟩ ⟨Nat.le_of_ble_eq_true rfl, Nat.le_of_ble_eq_true rfl⟩ ?_ ?_
  · intro v5 s5 q5 hnf
    rcases q5 with ⟨e, -, -⟩ | ⟨rfl, hl, hc⟩
    · exact absurd e (hnf _)
    refine zw_i2l dL_addVariable_8 ?_
    refine zw_lastore (t := 4) dL_addVariable_9 (lk_53 hl) rfl (by decide) (zin_of (ll_53 hl) (by unfold vp_in; decide)) ?_
    refine zw_goto (tgt := 21) dL_addVariable_10 (by decide) ?_
    refine zw_iconst (x := 0) dL_addVariable_21 rfl ?_
    refine zw_iret dL_addVariable_22 rfl rfl ?_
    exact Or.inr ⟨rfl, lSh_J hl, rfl, hc⟩
  · intro k5 s5 n5 q5
    rcases q5 with ⟨e, rfl, hc⟩ | ⟨e, -⟩
    rotate_left
    · cases e
    obtain rfl : k5 = 0 := by
      injection e with e
      injection e
    refine ⟨(0, 10, 13, 13), _, 4, 2, zHH_L_addVariable, rfl, by decide, zcx_13, zca_0, (Or.inl ⟨rfl, dL_addVariable_13⟩), by decide, ?_⟩
    refine zw_iconst (x := 1) dL_addVariable_15 rfl ?_
    refine zw_iret dL_addVariable_16 rfl rfl ?_
    exact Or.inl ⟨rfl, lSh_pad, hc⟩
set_option maxHeartbeats 4000000 in
set_option maxRecDepth 100000 in
theorem c1_L_count {l : Launch} (hfl : l.stackTraces = false) {xs : Nat → Int32} (p : Int32) : zAH l zmL_count 7 121 1 6 [.ref 1, .int p, .ref 53] (hF 6 xs) (fun v σ' => (v = some (.int 1) ∧ lSh xs σ' ∧ ¬ (0 ≤ p ∧ p ≤ 5)) ∨ (v = some (.int 0) ∧ lSh xs σ' ∧ zJ σ' 53 0 = 0 ∧ 0 ≤ p ∧ p ≤ 5)) := by
  refine zAH.of (by decide +kernel) (Nat.le_of_ble_eq_true rfl) ?_
  refine zw_aload_n dL_count_0 rfl ?_
  refine zw_iconst (x := 0) dL_count_1 rfl ?_
  refine zw_aload_n dL_count_2 rfl ?_
  refine zw_iload_n dL_count_3 rfl ?_
  refine zw_callVX (y' := zmX5_count) dL_count_4 zlL_34 (by decide +kernel) zmX5_count_ok (show zK _ 1 = 5 from rfl) (by decide) rfl (c1_X5_count hfl _) rfl rfl (Nat.le_of_ble_eq_true rfl) ⟨Nat.le_of_ble_eq_true rfl, Nat.le_of_ble_eq_true rfl⟩ ⟨Nat.le_of_ble_eq_true rfl, Nat.le_of_ble_eq_true rfl⟩ ?_ ?_
  · intro v4 s4 q4 hnf
    rcases q4 with ⟨e, -, -⟩ | ⟨rfl, hl, hc⟩
    · exact absurd e (hnf _)
    refine zw_i2l dL_count_7 ?_
    refine zw_lastore (t := 4) dL_count_8 (lk_53 hl) rfl (by decide) (zin_of (ll_53 hl) (by unfold vp_in; decide)) ?_
    refine zw_goto (tgt := 15) dL_count_9 (by decide) ?_
    refine zw_iconst (x := 0) dL_count_15 rfl ?_
    refine zw_iret dL_count_16 rfl rfl ?_
    exact Or.inr ⟨rfl, lSh_J hl, rfl, hc⟩
  · intro k4 s4 n4 q4
    rcases q4 with ⟨e, rfl, hc⟩ | ⟨e, -⟩
    rotate_left
    · cases e
    obtain rfl : k4 = 2 := by
      injection e with e
      injection e
    refine ⟨(0, 9, 12, 25), _, 3, 1, zHH_L_count, rfl, by decide, zcx_25, zca_2, (Or.inr ⟨rfl, 3, rfl, dL_count_12⟩), by decide, ?_⟩
    refine zw_iconst (x := 1) dL_count_13 rfl ?_
    refine zw_iret dL_count_14 rfl rfl ?_
    exact Or.inl ⟨rfl, lSh_pad, hc⟩
