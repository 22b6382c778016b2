/-! the class's face, where nothing throws -/
def xFg (σ : zS) : zS := zsF (zsF (zsF σ 3 8 8 0) 3 9 8 0) 3 10 8 0
theorem i32_5 : (5 : Int32) = nI 5 := by decide
theorem i32_4 : (4 : Int32) = nI 4 := by decide
theorem i32_12 : (12 : Int32) = nI 12 := by decide
theorem i32_16 : (16 : Int32) = nI 16 := by decide
theorem nI_no (n : Nat) (h : n < 2 ^ 31) : (nI n).toNatClampNeg = n := nI_clamp h
set_option maxHeartbeats 4000000 in
set_option maxRecDepth 100000 in
theorem c_X5_addProcess {l : Launch} {σ : zS} (h : xSh σ) {P : Nat} (hP : xP σ = nI P) (hP5 : P < 5) {x : Int32} (hx : 1 ≤ x ∧ x ≤ 8) : zAM l zmX5_addProcess 1 30 0 0 [.ref 1, .int x] σ (fun v σ' => v = some (.int (nI P)) ∧ σ' = zsF (zsI (xFg σ) 3 P x) 2 5 2 (nI (P + 1))) := by
  refine zAM.of (by decide +kernel) (Nat.le_of_ble_eq_true rfl) ?_
  refine zw_iload_n dX5_addProcess_0 rfl ?_
  refine zw_iconst (x := 1) dX5_addProcess_1 rfl ?_
  refine zw_bipush (x := 8) dX5_addProcess_2 rfl ?_
  refine zw_callS (y' := zmX5_isBetween) dX5_addProcess_4 zlX5_37 zmX5_isBetween_ok (c_X5_isBetween _ _ _) rfl rfl (Nat.le_of_ble_eq_true rfl) ⟨Nat.le_of_ble_eq_true rfl, Nat.le_of_ble_eq_true rfl⟩ ⟨Nat.le_of_ble_eq_true rfl, Nat.le_of_ble_eq_true rfl⟩ ?_
  intro v4 s4 q4
  obtain ⟨rfl, z4⟩ := q4
  rw [z4]
  clear z4
  rw [zb_t hx]
  refine zw_ifne (tgt := 20) dX5_addProcess_7 (by decide) (fun c7 => ?_) (fun c7 => ?_)
  · refine zw_aload_n dX5_addProcess_20 rfl ?_
    refine zw_getR dX5_addProcess_21 zfX5_12 rfl (xk_1 h) (by decide) (xg_5_0 h) ?_
    refine zw_getI dX5_addProcess_24 zfX5_48 rfl (xk_2 h) (by decide) ?_
    rw [show zF σ 2 5 2 = nI P from hP]
    refine zw_iconst (x := 5) dX5_addProcess_27 rfl ?_
    refine zw_icmplt (tgt := 41) dX5_addProcess_28 (by decide) (fun c28 => ?_) (fun c28 => ?_)
    · refine zw_aload_n dX5_addProcess_41 rfl ?_
      refine zw_getR dX5_addProcess_42 zfX5_19 rfl (xk_1 h) (by decide) (xg_5_1 h) ?_
      refine zw_callV (y' := zmX3_forget) dX5_addProcess_45 zlX5_57 zmX3_forget_ok (xk_8 h) (by decide) rfl (c_X3_forget h) rfl rfl (Nat.le_of_ble_eq_true rfl) ⟨Nat.le_of_ble_eq_true rfl, Nat.le_of_ble_eq_true rfl⟩ ⟨Nat.le_of_ble_eq_true rfl, Nat.le_of_ble_eq_true rfl⟩ ?_
      intro v45 s45 q45
      obtain ⟨rfl, z45⟩ := q45
      rw [z45]
      clear z45
      refine zw_aload_n dX5_addProcess_48 rfl ?_
      refine zw_getR dX5_addProcess_49 zfX5_12 rfl (xk_1 h) (by decide) (xg_5_0 h) ?_
      refine zw_iload_n dX5_addProcess_52 rfl ?_
      refine zw_callV (y' := zmX2_newProcess) dX5_addProcess_53 zlX5_60 zmX2_newProcess_ok (xk_2 h) (by decide) rfl (c_X2_newProcess (σ := xFg σ) h (by rw [show xP (xFg σ) = nI P from hP]; exact vp_in_nI hP5 (by decide)) x) rfl rfl (Nat.le_of_ble_eq_true rfl) ⟨Nat.le_of_ble_eq_true rfl, Nat.le_of_ble_eq_true rfl⟩ ⟨Nat.le_of_ble_eq_true rfl, Nat.le_of_ble_eq_true rfl⟩ ?_
      intro v53 s53 q53
      obtain ⟨rfl, z53⟩ := q53
      rw [z53]
      clear z53
      refine zw_iret dX5_addProcess_56 rfl rfl ?_
      rw [show xP (xFg σ) = nI P from hP, nI_clamp (show P < 2 ^ 31 by omega), nI_1]
      exact ⟨rfl, rfl⟩
    · rw [i32_5] at c28
      exact absurd (nI_lt hP5 (by decide)) c28
  · exact absurd c7 (by decide)
set_option maxHeartbeats 4000000 in
set_option maxRecDepth 100000 in
theorem c_X5_addVariable {l : Launch} {σ : zS} (h : xSh σ) {V : Nat} (hV : xV σ = nI V) (hV4 : V < 4) {x z : Int32} (hx : 1 ≤ x ∧ x ≤ 9) (hz : 0 ≤ z ∧ z ≤ x) : zAM l zmX5_addVariable 1 30 0 0 [.ref 1, .int x, .int z] σ (fun v σ' => v = some (.int (nI V)) ∧ σ' = zsF (zsI (zsI (xFg σ) 6 V x) 7 V z) 2 6 2 (nI (V + 1))) := by
  refine zAM.of (by decide +kernel) (Nat.le_of_ble_eq_true rfl) ?_
  refine zw_iload_n dX5_addVariable_0 rfl ?_
  refine zw_iconst (x := 1) dX5_addVariable_1 rfl ?_
  refine zw_bipush (x := 9) dX5_addVariable_2 rfl ?_
  refine zw_callS (y' := zmX5_isBetween) dX5_addVariable_4 zlX5_37 zmX5_isBetween_ok (c_X5_isBetween _ _ _) rfl rfl (Nat.le_of_ble_eq_true rfl) ⟨Nat.le_of_ble_eq_true rfl, Nat.le_of_ble_eq_true rfl⟩ ⟨Nat.le_of_ble_eq_true rfl, Nat.le_of_ble_eq_true rfl⟩ ?_
  intro v4 s4 q4
  obtain ⟨rfl, z4⟩ := q4
  rw [z4]
  clear z4
  rw [zb_t hx]
  refine zw_ifne (tgt := 20) dX5_addVariable_7 (by decide) (fun c7 => ?_) (fun c7 => ?_)
  · refine zw_iload_n dX5_addVariable_20 rfl ?_
    refine zw_iconst (x := 0) dX5_addVariable_21 rfl ?_
    refine zw_iload_n dX5_addVariable_22 rfl ?_
    refine zw_callS (y' := zmX5_isBetween) dX5_addVariable_23 zlX5_37 zmX5_isBetween_ok (c_X5_isBetween _ _ _) rfl rfl (Nat.le_of_ble_eq_true rfl) ⟨Nat.le_of_ble_eq_true rfl, Nat.le_of_ble_eq_true rfl⟩ ⟨Nat.le_of_ble_eq_true rfl, Nat.le_of_ble_eq_true rfl⟩ ?_
    intro v23 s23 q23
    obtain ⟨rfl, z23⟩ := q23
    rw [z23]
    clear z23
    rw [zb_t hz]
    refine zw_ifne (tgt := 39) dX5_addVariable_26 (by decide) (fun c26 => ?_) (fun c26 => ?_)
    · refine zw_aload_n dX5_addVariable_39 rfl ?_
      refine zw_getR dX5_addVariable_40 zfX5_12 rfl (xk_1 h) (by decide) (xg_5_0 h) ?_
      refine zw_getI dX5_addVariable_43 zfX5_68 rfl (xk_2 h) (by decide) ?_
      rw [show zF σ 2 6 2 = nI V from hV]
      refine zw_iconst (x := 4) dX5_addVariable_46 rfl ?_
      refine zw_icmplt (tgt := 60) dX5_addVariable_47 (by decide) (fun c47 => ?_) (fun c47 => ?_)
      · refine zw_aload_n dX5_addVariable_60 rfl ?_
        refine zw_getR dX5_addVariable_61 zfX5_19 rfl (xk_1 h) (by decide) (xg_5_1 h) ?_
        refine zw_callV (y' := zmX3_forget) dX5_addVariable_64 zlX5_57 zmX3_forget_ok (xk_8 h) (by decide) rfl (c_X3_forget h) rfl rfl (Nat.le_of_ble_eq_true rfl) ⟨Nat.le_of_ble_eq_true rfl, Nat.le_of_ble_eq_true rfl⟩ ⟨Nat.le_of_ble_eq_true rfl, Nat.le_of_ble_eq_true rfl⟩ ?_
        intro v64 s64 q64
        obtain ⟨rfl, z64⟩ := q64
        rw [z64]
        clear z64
        refine zw_aload_n dX5_addVariable_67 rfl ?_
        refine zw_getR dX5_addVariable_68 zfX5_12 rfl (xk_1 h) (by decide) (xg_5_0 h) ?_
        refine zw_iload_n dX5_addVariable_71 rfl ?_
        refine zw_iload_n dX5_addVariable_72 rfl ?_
        refine zw_callV (y' := zmX2_newVariable) dX5_addVariable_73 zlX5_73 zmX2_newVariable_ok (xk_2 h) (by decide) rfl (c_X2_newVariable (σ := xFg σ) h (by rw [show xV (xFg σ) = nI V from hV]; exact vp_in_nI hV4 (by decide)) x z) rfl rfl (Nat.le_of_ble_eq_true rfl) ⟨Nat.le_of_ble_eq_true rfl, Nat.le_of_ble_eq_true rfl⟩ ⟨Nat.le_of_ble_eq_true rfl, Nat.le_of_ble_eq_true rfl⟩ ?_
        intro v73 s73 q73
        obtain ⟨rfl, z73⟩ := q73
        rw [z73]
        clear z73
        refine zw_iret dX5_addVariable_76 rfl rfl ?_
        rw [show xV (xFg σ) = nI V from hV, nI_clamp (show V < 2 ^ 31 by omega), nI_1]
        exact ⟨rfl, rfl⟩
      · rw [i32_4] at c47
        exact absurd (nI_lt hV4 (by decide)) c47
    · exact absurd c26 (by decide)
  · exact absurd c7 (by decide)
set_option maxHeartbeats 4000000 in
set_option maxRecDepth 100000 in
theorem c_X5_guard {l : Launch} {σ : zS} (h : xSh σ) {P : Nat} (hP : xP σ = nI P) (hP5 : P ≤ 5) {i m mc a : Nat} (hi : i < P) (hmc : zI σ 4 i = nI mc) (hm : m < mc) (hm6 : mc ≤ 16) (ha : zR σ 5 (16 * i + m) = some a) (hk : zK σ a = 1) {V : Nat} (hV : xV σ = nI V) {x y z : Int32} (hx : 0 ≤ x ∧ x ≤ 4) (hy : 0 ≤ y ∧ y < nI V) (hz : 0 ≤ z ∧ z ≤ 9) : zAM l zmX5_guard 3 64 0 0 [.ref 1, .int (nI i), .int (nI m), .int x, .int y, .int z] σ (fun v σ' => v = some (.int (zF σ 1 5 a)) ∧ σ' = zsF (zsF (zsF (xFg σ) 1 5 a x) 1 6 a y) 1 7 a z) := by
  refine zAM.of (by decide +kernel) (Nat.le_of_ble_eq_true rfl) ?_
  refine zw_aload_n dX5_guard_0 rfl ?_
  refine zw_getR dX5_guard_1 zfX5_12 rfl (xk_1 h) (by decide) (xg_5_0 h) ?_
  refine zw_iload_n dX5_guard_4 rfl ?_
  refine zw_iload_n dX5_guard_5 rfl ?_
  refine zw_callV (y' := zmX2_find) dX5_guard_6 zlX5_103 zmX2_find_ok (xk_2 h) (by decide) rfl (c_X2_find h hP hP5 hi hmc hm hm6 ha) rfl rfl (Nat.le_of_ble_eq_true rfl) ⟨Nat.le_of_ble_eq_true rfl, Nat.le_of_ble_eq_true rfl⟩ ⟨Nat.le_of_ble_eq_true rfl, Nat.le_of_ble_eq_true rfl⟩ ?_
  intro v6 s6 q6
  obtain ⟨rfl, z6⟩ := q6
  rw [z6]
  clear z6
  refine zw_astore dX5_guard_9 (by decide) rfl ?_
  refine zw_aload dX5_guard_11 rfl ?_
  refine zw_ifnonnull (tgt := 26) dX5_guard_13 (by decide) ?_
  refine zw_iload_n dX5_guard_26 rfl ?_
  refine zw_iconst (x := 0) dX5_guard_27 rfl ?_
  refine zw_iconst (x := 4) dX5_guard_28 rfl ?_
  refine zw_callS (y' := zmX5_isBetween) dX5_guard_29 zlX5_37 zmX5_isBetween_ok (c_X5_isBetween _ _ _) rfl rfl (Nat.le_of_ble_eq_true rfl) ⟨Nat.le_of_ble_eq_true rfl, Nat.le_of_ble_eq_true rfl⟩ ⟨Nat.le_of_ble_eq_true rfl, Nat.le_of_ble_eq_true rfl⟩ ?_
  intro v29 s29 q29
  obtain ⟨rfl, z29⟩ := q29
  rw [z29]
  clear z29
  rw [zb_t hx]
  refine zw_ifne (tgt := 45) dX5_guard_32 (by decide) (fun c32 => ?_) (fun c32 => ?_)
  · refine zw_iload_n dX5_guard_45 rfl ?_
    refine zw_ifeq (tgt := 71) dX5_guard_46 (by decide) (fun c46 => ?_) (fun c46 => ?_)
    · refine zw_iload dX5_guard_71 rfl ?_
      refine zw_iconst (x := 0) dX5_guard_73 rfl ?_
      refine zw_bipush (x := 9) dX5_guard_74 rfl ?_
      refine zw_callS (y' := zmX5_isBetween) dX5_guard_76 zlX5_37 zmX5_isBetween_ok (c_X5_isBetween _ _ _) rfl rfl (Nat.le_of_ble_eq_true rfl) ⟨Nat.le_of_ble_eq_true rfl, Nat.le_of_ble_eq_true rfl⟩ ⟨Nat.le_of_ble_eq_true rfl, Nat.le_of_ble_eq_true rfl⟩ ?_
      intro v76 s76 q76
      obtain ⟨rfl, z76⟩ := q76
      rw [z76]
      clear z76
      rw [zb_t hz]
      refine zw_ifne (tgt := 92) dX5_guard_79 (by decide) (fun c79 => ?_) (fun c79 => ?_)
      · refine zw_aload_n dX5_guard_92 rfl ?_
        refine zw_getR dX5_guard_93 zfX5_19 rfl (xk_1 h) (by decide) (xg_5_1 h) ?_
        refine zw_callV (y' := zmX3_forget) dX5_guard_96 zlX5_57 zmX3_forget_ok (xk_8 h) (by decide) rfl (c_X3_forget h) rfl rfl (Nat.le_of_ble_eq_true rfl) ⟨Nat.le_of_ble_eq_true rfl, Nat.le_of_ble_eq_true rfl⟩ ⟨Nat.le_of_ble_eq_true rfl, Nat.le_of_ble_eq_true rfl⟩ ?_
        intro v96 s96 q96
        obtain ⟨rfl, z96⟩ := q96
        rw [z96]
        clear z96
        refine zw_aload dX5_guard_99 rfl ?_
        refine zw_iload_n dX5_guard_101 rfl ?_
        refine zw_iload dX5_guard_102 rfl ?_
        refine zw_iload dX5_guard_104 rfl ?_
        refine zw_callV (y' := zmX1_setGuard) dX5_guard_106 zlX5_118 zmX1_setGuard_ok hk (by decide) rfl (c_X1_setGuard (σ := xFg σ) hk x y z) rfl rfl (Nat.le_of_ble_eq_true rfl) ⟨Nat.le_of_ble_eq_true rfl, Nat.le_of_ble_eq_true rfl⟩ ⟨Nat.le_of_ble_eq_true rfl, Nat.le_of_ble_eq_true rfl⟩ ?_
        intro v106 s106 q106
        obtain ⟨rfl, z106⟩ := q106
        rw [z106]
        clear z106
        refine zw_iret dX5_guard_109 rfl rfl ?_
        exact ⟨rfl, rfl⟩
      · exact absurd c79 (by decide)
    · refine zw_aload_n dX5_guard_49 rfl ?_
      refine zw_getR dX5_guard_50 zfX5_12 rfl (xk_1 h) (by decide) (xg_5_0 h) ?_
      refine zw_iload dX5_guard_53 rfl ?_
      refine zw_callV (y' := zmX2_hasVariable) dX5_guard_55 zlX5_111 zmX2_hasVariable_ok (xk_2 h) (by decide) rfl (c_X2_hasVariable h _) rfl rfl (Nat.le_of_ble_eq_true rfl) ⟨Nat.le_of_ble_eq_true rfl, Nat.le_of_ble_eq_true rfl⟩ ⟨Nat.le_of_ble_eq_true rfl, Nat.le_of_ble_eq_true rfl⟩ ?_
      intro v55 s55 q55
      obtain ⟨rfl, z55⟩ := q55
      rw [z55]
      clear z55
      rw [hV, zb_t hy]
      refine zw_ifne (tgt := 71) dX5_guard_58 (by decide) (fun c58 => ?_) (fun c58 => ?_)
      · refine zw_iload dX5_guard_71 rfl ?_
        refine zw_iconst (x := 0) dX5_guard_73 rfl ?_
        refine zw_bipush (x := 9) dX5_guard_74 rfl ?_
        refine zw_callS (y' := zmX5_isBetween) dX5_guard_76 zlX5_37 zmX5_isBetween_ok (c_X5_isBetween _ _ _) rfl rfl (Nat.le_of_ble_eq_true rfl) ⟨Nat.le_of_ble_eq_true rfl, Nat.le_of_ble_eq_true rfl⟩ ⟨Nat.le_of_ble_eq_true rfl, Nat.le_of_ble_eq_true rfl⟩ ?_
        intro v76 s76 q76
        obtain ⟨rfl, z76⟩ := q76
        rw [z76]
        clear z76
        rw [zb_t hz]
        refine zw_ifne (tgt := 92) dX5_guard_79 (by decide) (fun c79 => ?_) (fun c79 => ?_)
        · refine zw_aload_n dX5_guard_92 rfl ?_
          refine zw_getR dX5_guard_93 zfX5_19 rfl (xk_1 h) (by decide) (xg_5_1 h) ?_
          refine zw_callV (y' := zmX3_forget) dX5_guard_96 zlX5_57 zmX3_forget_ok (xk_8 h) (by decide) rfl (c_X3_forget h) rfl rfl (Nat.le_of_ble_eq_true rfl) ⟨Nat.le_of_ble_eq_true rfl, Nat.le_of_ble_eq_true rfl⟩ ⟨Nat.le_of_ble_eq_true rfl, Nat.le_of_ble_eq_true rfl⟩ ?_
          intro v96 s96 q96
          obtain ⟨rfl, z96⟩ := q96
          rw [z96]
          clear z96
          refine zw_aload dX5_guard_99 rfl ?_
          refine zw_iload_n dX5_guard_101 rfl ?_
          refine zw_iload dX5_guard_102 rfl ?_
          refine zw_iload dX5_guard_104 rfl ?_
          refine zw_callV (y' := zmX1_setGuard) dX5_guard_106 zlX5_118 zmX1_setGuard_ok hk (by decide) rfl (c_X1_setGuard (σ := xFg σ) hk x y z) rfl rfl (Nat.le_of_ble_eq_true rfl) ⟨Nat.le_of_ble_eq_true rfl, Nat.le_of_ble_eq_true rfl⟩ ⟨Nat.le_of_ble_eq_true rfl, Nat.le_of_ble_eq_true rfl⟩ ?_
          intro v106 s106 q106
          obtain ⟨rfl, z106⟩ := q106
          rw [z106]
          clear z106
          refine zw_iret dX5_guard_109 rfl rfl ?_
          exact ⟨rfl, rfl⟩
        · exact absurd c79 (by decide)
      · exact absurd c58 (by decide)
  · exact absurd c32 (by decide)
set_option maxHeartbeats 4000000 in
set_option maxRecDepth 100000 in
theorem c_X5_deed {l : Launch} {σ : zS} (h : xSh σ) {P : Nat} (hP : xP σ = nI P) (hP5 : P ≤ 5) {i m mc a : Nat} (hi : i < P) (hmc : zI σ 4 i = nI mc) (hm : m < mc) (hm6 : mc ≤ 16) (ha : zR σ 5 (16 * i + m) = some a) (hk : zK σ a = 1) {V : Nat} (hV : xV σ = nI V) (hV4 : V ≤ 4) {j : Nat} {x z : Int32} (hx : 0 ≤ x ∧ x ≤ 2) (hj : j < V) (hz : -9 ≤ z ∧ z ≤ 9) : zAM l zmX5_deed 3 64 0 0 [.ref 1, .int (nI i), .int (nI m), .int x, .int (nI j), .int z] σ (fun v σ' => v = some (.int (zF σ 1 8 a)) ∧ σ' = zsF (zsF (zsF (zsF (xFg σ) 1 8 a x) 1 9 a (nI j)) 1 10 a z) 1 11 a (zI σ 6 j)) := by
  refine zAM.of (by decide +kernel) (Nat.le_of_ble_eq_true rfl) ?_
  have hy : 0 ≤ nI j ∧ nI j < nI V := ⟨nI_pos' (by omega), nI_lt hj (by omega)⟩
  refine zw_aload_n dX5_deed_0 rfl ?_
  refine zw_getR dX5_deed_1 zfX5_12 rfl (xk_1 h) (by decide) (xg_5_0 h) ?_
  refine zw_iload_n dX5_deed_4 rfl ?_
  refine zw_iload_n dX5_deed_5 rfl ?_
  refine zw_callV (y' := zmX2_find) dX5_deed_6 zlX5_103 zmX2_find_ok (xk_2 h) (by decide) rfl (c_X2_find h hP hP5 hi hmc hm hm6 ha) rfl rfl (Nat.le_of_ble_eq_true rfl) ⟨Nat.le_of_ble_eq_true rfl, Nat.le_of_ble_eq_true rfl⟩ ⟨Nat.le_of_ble_eq_true rfl, Nat.le_of_ble_eq_true rfl⟩ ?_
  intro v6 s6 q6
  obtain ⟨rfl, z6⟩ := q6
  rw [z6]
  clear z6
  refine zw_astore dX5_deed_9 (by decide) rfl ?_
  refine zw_aload dX5_deed_11 rfl ?_
  refine zw_ifnonnull (tgt := 26) dX5_deed_13 (by decide) ?_
  refine zw_iload_n dX5_deed_26 rfl ?_
  refine zw_iconst (x := 0) dX5_deed_27 rfl ?_
  refine zw_iconst (x := 2) dX5_deed_28 rfl ?_
  refine zw_callS (y' := zmX5_isBetween) dX5_deed_29 zlX5_37 zmX5_isBetween_ok (c_X5_isBetween _ _ _) rfl rfl (Nat.le_of_ble_eq_true rfl) ⟨Nat.le_of_ble_eq_true rfl, Nat.le_of_ble_eq_true rfl⟩ ⟨Nat.le_of_ble_eq_true rfl, Nat.le_of_ble_eq_true rfl⟩ ?_
  intro v29 s29 q29
  obtain ⟨rfl, z29⟩ := q29
  rw [z29]
  clear z29
  rw [zb_t hx]
  refine zw_ifne (tgt := 45) dX5_deed_32 (by decide) (fun c32 => ?_) (fun c32 => ?_)
  · refine zw_iload_n dX5_deed_45 rfl ?_
    refine zw_ifeq (tgt := 71) dX5_deed_46 (by decide) (fun c46 => ?_) (fun c46 => ?_)
    · refine zw_iload dX5_deed_71 rfl ?_
      refine zw_bipush (x := -9) dX5_deed_73 rfl ?_
      refine zw_bipush (x := 9) dX5_deed_75 rfl ?_
      refine zw_callS (y' := zmX5_isBetween) dX5_deed_77 zlX5_37 zmX5_isBetween_ok (c_X5_isBetween _ _ _) rfl rfl (Nat.le_of_ble_eq_true rfl) ⟨Nat.le_of_ble_eq_true rfl, Nat.le_of_ble_eq_true rfl⟩ ⟨Nat.le_of_ble_eq_true rfl, Nat.le_of_ble_eq_true rfl⟩ ?_
      intro v77 s77 q77
      obtain ⟨rfl, z77⟩ := q77
      rw [z77]
      clear z77
      rw [zb_t hz]
      refine zw_ifne (tgt := 93) dX5_deed_80 (by decide) (fun c80 => ?_) (fun c80 => ?_)
      · refine zw_aload_n dX5_deed_93 rfl ?_
        refine zw_getR dX5_deed_94 zfX5_19 rfl (xk_1 h) (by decide) (xg_5_1 h) ?_
        refine zw_callV (y' := zmX3_forget) dX5_deed_97 zlX5_57 zmX3_forget_ok (xk_8 h) (by decide) rfl (c_X3_forget h) rfl rfl (Nat.le_of_ble_eq_true rfl) ⟨Nat.le_of_ble_eq_true rfl, Nat.le_of_ble_eq_true rfl⟩ ⟨Nat.le_of_ble_eq_true rfl, Nat.le_of_ble_eq_true rfl⟩ ?_
        intro v97 s97 q97
        obtain ⟨rfl, z97⟩ := q97
        rw [z97]
        clear z97
        refine zw_aload dX5_deed_100 rfl ?_
        refine zw_iload_n dX5_deed_102 rfl ?_
        refine zw_iload dX5_deed_103 rfl ?_
        refine zw_iload dX5_deed_105 rfl ?_
        refine zw_aload_n dX5_deed_107 rfl ?_
        refine zw_getR dX5_deed_108 zfX5_12 rfl (xk_1 h) (by decide) (xg_5_0 h) ?_
        refine zw_iload dX5_deed_111 rfl ?_
        refine zw_callV (y' := zmX2_greatestOf) dX5_deed_113 zlX5_128 zmX2_greatestOf_ok (xk_2 h) (by decide) rfl (c_X2_greatestOf (σ := xFg σ) h hV hV4 hj) rfl rfl (Nat.le_of_ble_eq_true rfl) ⟨Nat.le_of_ble_eq_true rfl, Nat.le_of_ble_eq_true rfl⟩ ⟨Nat.le_of_ble_eq_true rfl, Nat.le_of_ble_eq_true rfl⟩ ?_
        intro v113 s113 q113
        obtain ⟨rfl, z113⟩ := q113
        rw [z113]
        clear z113
        refine zw_callV (y' := zmX1_setDeed) dX5_deed_116 zlX5_131 zmX1_setDeed_ok hk (by decide) rfl (c_X1_setDeed (σ := xFg σ) hk x (nI j) z (zI σ 6 j)) rfl rfl (Nat.le_of_ble_eq_true rfl) ⟨Nat.le_of_ble_eq_true rfl, Nat.le_of_ble_eq_true rfl⟩ ⟨Nat.le_of_ble_eq_true rfl, Nat.le_of_ble_eq_true rfl⟩ ?_
        intro v116 s116 q116
        obtain ⟨rfl, z116⟩ := q116
        rw [z116]
        clear z116
        refine zw_iret dX5_deed_119 rfl rfl ?_
        exact ⟨rfl, rfl⟩
      · exact absurd c80 (by decide)
    · refine zw_aload_n dX5_deed_49 rfl ?_
      refine zw_getR dX5_deed_50 zfX5_12 rfl (xk_1 h) (by decide) (xg_5_0 h) ?_
      refine zw_iload dX5_deed_53 rfl ?_
      refine zw_callV (y' := zmX2_hasVariable) dX5_deed_55 zlX5_111 zmX2_hasVariable_ok (xk_2 h) (by decide) rfl (c_X2_hasVariable h _) rfl rfl (Nat.le_of_ble_eq_true rfl) ⟨Nat.le_of_ble_eq_true rfl, Nat.le_of_ble_eq_true rfl⟩ ⟨Nat.le_of_ble_eq_true rfl, Nat.le_of_ble_eq_true rfl⟩ ?_
      intro v55 s55 q55
      obtain ⟨rfl, z55⟩ := q55
      rw [z55]
      clear z55
      rw [hV, zb_t hy]
      refine zw_ifne (tgt := 71) dX5_deed_58 (by decide) (fun c58 => ?_) (fun c58 => ?_)
      · refine zw_iload dX5_deed_71 rfl ?_
        refine zw_bipush (x := -9) dX5_deed_73 rfl ?_
        refine zw_bipush (x := 9) dX5_deed_75 rfl ?_
        refine zw_callS (y' := zmX5_isBetween) dX5_deed_77 zlX5_37 zmX5_isBetween_ok (c_X5_isBetween _ _ _) rfl rfl (Nat.le_of_ble_eq_true rfl) ⟨Nat.le_of_ble_eq_true rfl, Nat.le_of_ble_eq_true rfl⟩ ⟨Nat.le_of_ble_eq_true rfl, Nat.le_of_ble_eq_true rfl⟩ ?_
        intro v77 s77 q77
        obtain ⟨rfl, z77⟩ := q77
        rw [z77]
        clear z77
        rw [zb_t hz]
        refine zw_ifne (tgt := 93) dX5_deed_80 (by decide) (fun c80 => ?_) (fun c80 => ?_)
        · refine zw_aload_n dX5_deed_93 rfl ?_
          refine zw_getR dX5_deed_94 zfX5_19 rfl (xk_1 h) (by decide) (xg_5_1 h) ?_
          refine zw_callV (y' := zmX3_forget) dX5_deed_97 zlX5_57 zmX3_forget_ok (xk_8 h) (by decide) rfl (c_X3_forget h) rfl rfl (Nat.le_of_ble_eq_true rfl) ⟨Nat.le_of_ble_eq_true rfl, Nat.le_of_ble_eq_true rfl⟩ ⟨Nat.le_of_ble_eq_true rfl, Nat.le_of_ble_eq_true rfl⟩ ?_
          intro v97 s97 q97
          obtain ⟨rfl, z97⟩ := q97
          rw [z97]
          clear z97
          refine zw_aload dX5_deed_100 rfl ?_
          refine zw_iload_n dX5_deed_102 rfl ?_
          refine zw_iload dX5_deed_103 rfl ?_
          refine zw_iload dX5_deed_105 rfl ?_
          refine zw_aload_n dX5_deed_107 rfl ?_
          refine zw_getR dX5_deed_108 zfX5_12 rfl (xk_1 h) (by decide) (xg_5_0 h) ?_
          refine zw_iload dX5_deed_111 rfl ?_
          refine zw_callV (y' := zmX2_greatestOf) dX5_deed_113 zlX5_128 zmX2_greatestOf_ok (xk_2 h) (by decide) rfl (c_X2_greatestOf (σ := xFg σ) h hV hV4 hj) rfl rfl (Nat.le_of_ble_eq_true rfl) ⟨Nat.le_of_ble_eq_true rfl, Nat.le_of_ble_eq_true rfl⟩ ⟨Nat.le_of_ble_eq_true rfl, Nat.le_of_ble_eq_true rfl⟩ ?_
          intro v113 s113 q113
          obtain ⟨rfl, z113⟩ := q113
          rw [z113]
          clear z113
          refine zw_callV (y' := zmX1_setDeed) dX5_deed_116 zlX5_131 zmX1_setDeed_ok hk (by decide) rfl (c_X1_setDeed (σ := xFg σ) hk x (nI j) z (zI σ 6 j)) rfl rfl (Nat.le_of_ble_eq_true rfl) ⟨Nat.le_of_ble_eq_true rfl, Nat.le_of_ble_eq_true rfl⟩ ⟨Nat.le_of_ble_eq_true rfl, Nat.le_of_ble_eq_true rfl⟩ ?_
          intro v116 s116 q116
          obtain ⟨rfl, z116⟩ := q116
          rw [z116]
          clear z116
          refine zw_iret dX5_deed_119 rfl rfl ?_
          exact ⟨rfl, rfl⟩
        · exact absurd c80 (by decide)
      · exact absurd c58 (by decide)
  · exact absurd c32 (by decide)
set_option maxHeartbeats 4000000 in
set_option maxRecDepth 100000 in
theorem c_X5_state_9 {l : Launch} {σ : zS} (h : xSh σ) {n s : Nat} (hS : xS σ = nI n) (hn : n ≤ 400) (hs : s < n) {F G : Nat} (hF : zI σ 14 s = nI F) (hG : zI σ 14 (s + 1) = nI (F + G)) : zAM l zmX5_state 1 30 0 0 [.ref 1, .int (nI s), .int 9] σ (fun v σ' => v = some (.int (nI G)) ∧ σ' = σ) := by
  refine zAM.of (by decide +kernel) (Nat.le_of_ble_eq_true rfl) ?_
  have hss : 0 ≤ nI s ∧ nI s < nI n := ⟨nI_pos' (by omega), nI_lt hs (by omega)⟩
  refine zw_aload_n dX5_state_0 rfl ?_
  refine zw_getR dX5_state_1 zfX5_19 rfl (xk_1 h) (by decide) (xg_5_1 h) ?_
  refine zw_iload_n dX5_state_4 rfl ?_
  refine zw_callV (y' := zmX3_hasState) dX5_state_5 zlX5_146 zmX3_hasState_ok (xk_8 h) (by decide) rfl (c_X3_hasState h _) rfl rfl (Nat.le_of_ble_eq_true rfl) ⟨Nat.le_of_ble_eq_true rfl, Nat.le_of_ble_eq_true rfl⟩ ⟨Nat.le_of_ble_eq_true rfl, Nat.le_of_ble_eq_true rfl⟩ ?_
  intro v5 s5 q5
  obtain ⟨rfl, z5⟩ := q5
  rw [z5]
  clear z5
  rw [hS, zb_t hss]
  refine zw_ifne (tgt := 21) dX5_state_8 (by decide) (fun c8 => ?_) (fun c8 => ?_)
  · refine zw_iload_n dX5_state_21 rfl ?_
    refine zw_bipush (x := 9) dX5_state_22 rfl ?_
    refine zw_icmpne (tgt := 36) dX5_state_24 (by decide) (fun c24 => ?_) (fun c24 => ?_)
    · exact absurd rfl c24
    · refine zw_aload_n dX5_state_27 rfl ?_
      refine zw_getR dX5_state_28 zfX5_19 rfl (xk_1 h) (by decide) (xg_5_1 h) ?_
      refine zw_iload_n dX5_state_31 rfl ?_
      refine zw_callV (y' := zmX3_stepsOf) dX5_state_32 zlX5_151 zmX3_stepsOf_ok (xk_8 h) (by decide) rfl (c_X3_stepsOf h (show s < 400 by omega)) rfl rfl (Nat.le_of_ble_eq_true rfl) ⟨Nat.le_of_ble_eq_true rfl, Nat.le_of_ble_eq_true rfl⟩ ⟨Nat.le_of_ble_eq_true rfl, Nat.le_of_ble_eq_true rfl⟩ ?_
      intro v32 s32 q32
      obtain ⟨rfl, z32⟩ := q32
      rw [z32]
      clear z32
      refine zw_iret dX5_state_35 rfl rfl ?_
      rw [hG, hF, show nI (F + G) - nI F = nI G from by rw [Nat.add_comm, ← nI_add]; exact Int32.add_sub_cancel _ _]
      exact ⟨rfl, rfl⟩
  · exact absurd c8 (by decide)
set_option maxHeartbeats 4000000 in
set_option maxRecDepth 100000 in
theorem c_X5_state_10 {l : Launch} {σ : zS} (h : xSh σ) {n s : Nat} (hS : xS σ = nI n) (hn : n ≤ 400) (hs : s < n) : zAM l zmX5_state 1 30 0 0 [.ref 1, .int (nI s), .int 10] σ (fun v σ' => v = some (.int (zI σ 10 s)) ∧ σ' = σ) := by
  refine zAM.of (by decide +kernel) (Nat.le_of_ble_eq_true rfl) ?_
  have hss : 0 ≤ nI s ∧ nI s < nI n := ⟨nI_pos' (by omega), nI_lt hs (by omega)⟩
  refine zw_aload_n dX5_state_0 rfl ?_
  refine zw_getR dX5_state_1 zfX5_19 rfl (xk_1 h) (by decide) (xg_5_1 h) ?_
  refine zw_iload_n dX5_state_4 rfl ?_
  refine zw_callV (y' := zmX3_hasState) dX5_state_5 zlX5_146 zmX3_hasState_ok (xk_8 h) (by decide) rfl (c_X3_hasState h _) rfl rfl (Nat.le_of_ble_eq_true rfl) ⟨Nat.le_of_ble_eq_true rfl, Nat.le_of_ble_eq_true rfl⟩ ⟨Nat.le_of_ble_eq_true rfl, Nat.le_of_ble_eq_true rfl⟩ ?_
  intro v5 s5 q5
  obtain ⟨rfl, z5⟩ := q5
  rw [z5]
  clear z5
  rw [hS, zb_t hss]
  refine zw_ifne (tgt := 21) dX5_state_8 (by decide) (fun c8 => ?_) (fun c8 => ?_)
  · refine zw_iload_n dX5_state_21 rfl ?_
    refine zw_bipush (x := 9) dX5_state_22 rfl ?_
    refine zw_icmpne (tgt := 36) dX5_state_24 (by decide) (fun c24 => ?_) (fun c24 => ?_)
    · refine zw_iload_n dX5_state_36 rfl ?_
      refine zw_bipush (x := 10) dX5_state_37 rfl ?_
      refine zw_icmpne (tgt := 51) dX5_state_39 (by decide) (fun c39 => ?_) (fun c39 => ?_)
      · exact absurd rfl c39
      · refine zw_aload_n dX5_state_42 rfl ?_
        refine zw_getR dX5_state_43 zfX5_19 rfl (xk_1 h) (by decide) (xg_5_1 h) ?_
        refine zw_iload_n dX5_state_46 rfl ?_
        refine zw_callV (y' := zmX3_depthOf) dX5_state_47 zlX5_154 zmX3_depthOf_ok (xk_8 h) (by decide) rfl (c_X3_depthOf h (show s < 400 by omega)) rfl rfl (Nat.le_of_ble_eq_true rfl) ⟨Nat.le_of_ble_eq_true rfl, Nat.le_of_ble_eq_true rfl⟩ ⟨Nat.le_of_ble_eq_true rfl, Nat.le_of_ble_eq_true rfl⟩ ?_
        intro v47 s47 q47
        obtain ⟨rfl, z47⟩ := q47
        rw [z47]
        clear z47
        refine zw_iret dX5_state_50 rfl rfl ?_
        exact ⟨rfl, rfl⟩
    · exact absurd c24 (by decide)
  · exact absurd c8 (by decide)
set_option maxHeartbeats 4000000 in
set_option maxRecDepth 100000 in
theorem c_X5_step {l : Launch} {σ : zS} (h : xSh σ) {n s : Nat} (hS : xS σ = nI n) (hn : n ≤ 400) (hs : s < n) {F G j pk : Nat} (hF : zI σ 14 s = nI F) (hG : zI σ 14 (s + 1) = nI (F + G)) (hj : j < G) (hpk : xPk σ pk) (hL : F + G ≤ zL σ pk) (hl : zL σ pk < 2 ^ 31) {w : Int32} (hw : 0 ≤ w ∧ w ≤ 4) : zAM l zmX5_step 1 30 0 0 [.ref 1, .int (nI s), .int (nI j), .int w] σ (fun v σ' => v = some (.int (xPart (zI σ pk (F + j)) w)) ∧ σ' = σ) := by
  refine zAM.of (by decide +kernel) (Nat.le_of_ble_eq_true rfl) ?_
  have hss : 0 ≤ nI s ∧ nI s < nI n := ⟨nI_pos' (by omega), nI_lt hs (by omega)⟩
  refine zw_aload_n dX5_step_0 rfl ?_
  refine zw_getR dX5_step_1 zfX5_19 rfl (xk_1 h) (by decide) (xg_5_1 h) ?_
  refine zw_iload_n dX5_step_4 rfl ?_
  refine zw_callV (y' := zmX3_hasState) dX5_step_5 zlX5_146 zmX3_hasState_ok (xk_8 h) (by decide) rfl (c_X3_hasState h _) rfl rfl (Nat.le_of_ble_eq_true rfl) ⟨Nat.le_of_ble_eq_true rfl, Nat.le_of_ble_eq_true rfl⟩ ⟨Nat.le_of_ble_eq_true rfl, Nat.le_of_ble_eq_true rfl⟩ ?_
  intro v5 s5 q5
  obtain ⟨rfl, z5⟩ := q5
  rw [z5]
  clear z5
  rw [hS, zb_t hss]
  refine zw_ifne (tgt := 21) dX5_step_8 (by decide) (fun c8 => ?_) (fun c8 => ?_)
  · refine zw_iload_n dX5_step_21 rfl ?_
    refine zw_iconst (x := 0) dX5_step_22 rfl ?_
    refine zw_aload_n dX5_step_23 rfl ?_
    refine zw_getR dX5_step_24 zfX5_19 rfl (xk_1 h) (by decide) (xg_5_1 h) ?_
    refine zw_iload_n dX5_step_27 rfl ?_
    refine zw_callV (y' := zmX3_stepsOf) dX5_step_28 zlX5_151 zmX3_stepsOf_ok (xk_8 h) (by decide) rfl (c_X3_stepsOf h (show s < 400 by omega)) rfl rfl (Nat.le_of_ble_eq_true rfl) ⟨Nat.le_of_ble_eq_true rfl, Nat.le_of_ble_eq_true rfl⟩ ⟨Nat.le_of_ble_eq_true rfl, Nat.le_of_ble_eq_true rfl⟩ ?_
    intro v28 s28 q28
    obtain ⟨rfl, z28⟩ := q28
    rw [z28]
    clear z28
    rw [hG, hF, show nI (F + G) - nI F = nI G from by rw [Nat.add_comm, ← nI_add]; exact Int32.add_sub_cancel _ _]
    refine zw_iconst (x := 1) dX5_step_31 rfl ?_
    refine zw_isub dX5_step_32 ?_
    obtain ⟨g, rfl⟩ : ∃ g, G = g + 1 := ⟨G - 1, by omega⟩
    rw [nI_pred]
    refine zw_callS (y' := zmX5_isBetween) dX5_step_33 zlX5_37 zmX5_isBetween_ok (c_X5_isBetween _ _ _) rfl rfl (Nat.le_of_ble_eq_true rfl) ⟨Nat.le_of_ble_eq_true rfl, Nat.le_of_ble_eq_true rfl⟩ ⟨Nat.le_of_ble_eq_true rfl, Nat.le_of_ble_eq_true rfl⟩ ?_
    intro v33 s33 q33
    obtain ⟨rfl, z33⟩ := q33
    rw [z33]
    clear z33
    rw [zb_t (show 0 ≤ nI j ∧ nI j ≤ nI g from ⟨nI_pos' (by omega), nI_le (by omega) (by omega)⟩)]
    refine zw_ifne (tgt := 49) dX5_step_36 (by decide) (fun c36 => ?_) (fun c36 => ?_)
    · refine zw_iload_n dX5_step_49 rfl ?_
      refine zw_iconst (x := 0) dX5_step_50 rfl ?_
      refine zw_iconst (x := 4) dX5_step_51 rfl ?_
      refine zw_callS (y' := zmX5_isBetween) dX5_step_52 zlX5_37 zmX5_isBetween_ok (c_X5_isBetween _ _ _) rfl rfl (Nat.le_of_ble_eq_true rfl) ⟨Nat.le_of_ble_eq_true rfl, Nat.le_of_ble_eq_true rfl⟩ ⟨Nat.le_of_ble_eq_true rfl, Nat.le_of_ble_eq_true rfl⟩ ?_
      intro v52 s52 q52
      obtain ⟨rfl, z52⟩ := q52
      rw [z52]
      clear z52
      rw [zb_t hw]
      refine zw_ifne (tgt := 68) dX5_step_55 (by decide) (fun c55 => ?_) (fun c55 => ?_)
      · refine zw_aload_n dX5_step_68 rfl ?_
        refine zw_getR dX5_step_69 zfX5_19 rfl (xk_1 h) (by decide) (xg_5_1 h) ?_
        refine zw_iload_n dX5_step_72 rfl ?_
        refine zw_iload_n dX5_step_73 rfl ?_
        refine zw_callV (y' := zmX3_packedStep) dX5_step_74 zlX5_172 zmX3_packedStep_ok (xk_8 h) (by decide) rfl (c_X3_packedStep h hpk (show s < 400 by omega) hF (show F + j < zL σ pk by omega) hl) rfl rfl (Nat.le_of_ble_eq_true rfl) ⟨Nat.le_of_ble_eq_true rfl, Nat.le_of_ble_eq_true rfl⟩ ⟨Nat.le_of_ble_eq_true rfl, Nat.le_of_ble_eq_true rfl⟩ ?_
        intro v74 s74 q74
        obtain ⟨rfl, z74⟩ := q74
        rw [z74]
        clear z74
        refine zw_iload_n dX5_step_77 rfl ?_
        refine zw_callS (y' := zmX3_partOf) dX5_step_78 zlX5_175 zmX3_partOf_ok (c_X3_partOf _ _) rfl rfl (Nat.le_of_ble_eq_true rfl) ⟨Nat.le_of_ble_eq_true rfl, Nat.le_of_ble_eq_true rfl⟩ ⟨Nat.le_of_ble_eq_true rfl, Nat.le_of_ble_eq_true rfl⟩ ?_
        intro v78 s78 q78
        obtain ⟨rfl, z78⟩ := q78
        rw [z78]
        clear z78
        refine zw_iret dX5_step_81 rfl rfl ?_
        exact ⟨rfl, rfl⟩
      · exact absurd c55 (by decide)
    · exact absurd c36 (by decide)
  · exact absurd c8 (by decide)
set_option maxHeartbeats 4000000 in
set_option maxRecDepth 100000 in
theorem c_X5_holds {l : Launch} {σ : zS} (h : xSh σ) {n s : Nat} (hS : xS σ = nI n) (hn : n ≤ 400) (hs : s < n) {nf f : Nat} (hnf : xFz σ = nI nf) (hnf12 : nf ≤ 12) (hf : f < nf) : zAM l zmX5_holds 3 70 0 0 [.ref 1, .int (nI f), .int (nI s)] σ (fun v σ' => v = some (.int (zb (xHold σ f (zI σ 9 s)))) ∧ σ' = σ) := by
  refine zAM.of (by decide +kernel) (Nat.le_of_ble_eq_true rfl) ?_
  have hss : 0 ≤ nI s ∧ nI s < nI n := ⟨nI_pos' (by omega), nI_lt hs (by omega)⟩
  have hff : 0 ≤ nI f ∧ nI f < nI nf := ⟨nI_pos' (by omega), nI_lt hf (by omega)⟩
  refine zw_aload_n dX5_holds_0 rfl ?_
  refine zw_getR dX5_holds_1 zfX5_26 rfl (xk_1 h) (by decide) (xg_5_2 h) ?_
  refine zw_iload_n dX5_holds_4 rfl ?_
  refine zw_callV (y' := zmX0_hasFact) dX5_holds_5 zlX5_191 zmX0_hasFact_ok (xk_17 h) (by decide) rfl (c_X0_hasFact h _) rfl rfl (Nat.le_of_ble_eq_true rfl) ⟨Nat.le_of_ble_eq_true rfl, Nat.le_of_ble_eq_true rfl⟩ ⟨Nat.le_of_ble_eq_true rfl, Nat.le_of_ble_eq_true rfl⟩ ?_
  intro v5 s5 q5
  obtain ⟨rfl, z5⟩ := q5
  rw [z5]
  clear z5
  rw [hnf, zb_t hff]
  refine zw_ifne (tgt := 21) dX5_holds_8 (by decide) (fun c8 => ?_) (fun c8 => ?_)
  · refine zw_aload_n dX5_holds_21 rfl ?_
    refine zw_getR dX5_holds_22 zfX5_19 rfl (xk_1 h) (by decide) (xg_5_1 h) ?_
    refine zw_iload_n dX5_holds_25 rfl ?_
    refine zw_callV (y' := zmX3_hasState) dX5_holds_26 zlX5_146 zmX3_hasState_ok (xk_8 h) (by decide) rfl (c_X3_hasState h _) rfl rfl (Nat.le_of_ble_eq_true rfl) ⟨Nat.le_of_ble_eq_true rfl, Nat.le_of_ble_eq_true rfl⟩ ⟨Nat.le_of_ble_eq_true rfl, Nat.le_of_ble_eq_true rfl⟩ ?_
    intro v26 s26 q26
    obtain ⟨rfl, z26⟩ := q26
    rw [z26]
    clear z26
    rw [hS, zb_t hss]
    refine zw_ifne (tgt := 42) dX5_holds_29 (by decide) (fun c29 => ?_) (fun c29 => ?_)
    · refine zw_aload_n dX5_holds_42 rfl ?_
      refine zw_getR dX5_holds_43 zfX5_26 rfl (xk_1 h) (by decide) (xg_5_2 h) ?_
      refine zw_iload_n dX5_holds_46 rfl ?_
      refine zw_aload_n dX5_holds_47 rfl ?_
      refine zw_getR dX5_holds_48 zfX5_19 rfl (xk_1 h) (by decide) (xg_5_1 h) ?_
      refine zw_iload_n dX5_holds_51 rfl ?_
      refine zw_callV (y' := zmX3_keyOf) dX5_holds_52 zlX5_157 zmX3_keyOf_ok (xk_8 h) (by decide) rfl (c_X3_keyOf h (show s < 400 by omega)) rfl rfl (Nat.le_of_ble_eq_true rfl) ⟨Nat.le_of_ble_eq_true rfl, Nat.le_of_ble_eq_true rfl⟩ ⟨Nat.le_of_ble_eq_true rfl, Nat.le_of_ble_eq_true rfl⟩ ?_
      intro v52 s52 q52
      obtain ⟨rfl, z52⟩ := q52
      rw [z52]
      clear z52
      refine zw_callV (y' := zmX0_isTrueIn) dX5_holds_55 zlX5_196 zmX0_isTrueIn_ok (xk_17 h) (by decide) rfl (c_X0_isTrueIn h hnf hnf12 hf _) rfl rfl (Nat.le_of_ble_eq_true rfl) ⟨Nat.le_of_ble_eq_true rfl, Nat.le_of_ble_eq_true rfl⟩ ⟨Nat.le_of_ble_eq_true rfl, Nat.le_of_ble_eq_true rfl⟩ ?_
      intro v55 s55 q55
      obtain ⟨rfl, z55⟩ := q55
      rw [z55]
      clear z55
      refine zw_iret dX5_holds_58 rfl (znz _) ?_
      exact ⟨rfl, rfl⟩
    · exact absurd c29 (by decide)
  · exact absurd c8 (by decide)
set_option maxHeartbeats 4000000 in
set_option maxRecDepth 100000 in
theorem c_X5_addFact {l : Launch} {σ : zS} (h : xSh σ) {x a b : Int32} (hb : zAM l zmX5_canBeFact 2 43 0 0 [.ref 1, .int x, .int a, .int b] σ (fun v σ' => v = some (.int 1) ∧ σ' = σ)) {n : Nat} (hn : xFz σ = nI n) (hn12 : n < 12) : zAM l zmX5_addFact 3 66 0 0 [.ref 1, .int x, .int a, .int b] σ (fun v σ' => v = some (.int (nI n)) ∧ σ' = zsF (zsI (zsI (zsI σ 18 n x) 19 n a) 20 n b) 0 3 17 (nI (n + 1))) := by
  refine zAM.of (by decide +kernel) (Nat.le_of_ble_eq_true rfl) ?_
  refine zw_aload_n dX5_addFact_0 rfl ?_
  refine zw_iload_n dX5_addFact_1 rfl ?_
  refine zw_iload_n dX5_addFact_2 rfl ?_
  refine zw_iload_n dX5_addFact_3 rfl ?_
  refine zw_callV (y' := zmX5_canBeFact) dX5_addFact_4 zlX5_178 zmX5_canBeFact_ok (xk_1 h) (by decide) rfl hb rfl rfl (Nat.le_of_ble_eq_true rfl) ⟨Nat.le_of_ble_eq_true rfl, Nat.le_of_ble_eq_true rfl⟩ ⟨Nat.le_of_ble_eq_true rfl, Nat.le_of_ble_eq_true rfl⟩ ?_
  intro v4 s4 q4
  obtain ⟨rfl, z4⟩ := q4
  rw [z4]
  clear z4
  refine zw_ifne (tgt := 20) dX5_addFact_7 (by decide) (fun c7 => ?_) (fun c7 => ?_)
  · refine zw_aload_n dX5_addFact_20 rfl ?_
    refine zw_getR dX5_addFact_21 zfX5_26 rfl (xk_1 h) (by decide) (xg_5_2 h) ?_
    refine zw_getI dX5_addFact_24 zfX5_183 rfl (xk_17 h) (by decide) ?_
    rw [show zF σ 0 3 17 = nI n from hn]
    refine zw_bipush (x := 12) dX5_addFact_27 rfl ?_
    refine zw_icmplt (tgt := 42) dX5_addFact_29 (by decide) (fun c29 => ?_) (fun c29 => ?_)
    · refine zw_aload_n dX5_addFact_42 rfl ?_
      refine zw_getR dX5_addFact_43 zfX5_26 rfl (xk_1 h) (by decide) (xg_5_2 h) ?_
      refine zw_iload_n dX5_addFact_46 rfl ?_
      refine zw_iload_n dX5_addFact_47 rfl ?_
      refine zw_iload_n dX5_addFact_48 rfl ?_
      refine zw_callV (y' := zmX0_newFact) dX5_addFact_49 zlX5_188 zmX0_newFact_ok (xk_17 h) (by decide) rfl (c_X0_newFact h hn hn12 x a b) rfl rfl (Nat.le_of_ble_eq_true rfl) ⟨Nat.le_of_ble_eq_true rfl, Nat.le_of_ble_eq_true rfl⟩ ⟨Nat.le_of_ble_eq_true rfl, Nat.le_of_ble_eq_true rfl⟩ ?_
      intro v49 s49 q49
      obtain ⟨rfl, z49⟩ := q49
      rw [z49]
      clear z49
      refine zw_iret dX5_addFact_52 rfl rfl ?_
      exact ⟨rfl, rfl⟩
    · rw [i32_12] at c29
      exact absurd (nI_lt hn12 (by decide)) c29
  · exact absurd c7 (by decide)
set_option maxHeartbeats 4000000 in
set_option maxRecDepth 100000 in
theorem c_X5_way_no {l : Launch} {σ : zS} (h : xSh σ) {n s : Nat} (hS : xS σ = nI n) (hn : n ≤ 400) (hs : s < n) {k D : Nat} (hD : zI σ 10 s = nI D) (hD4 : D < 2 ^ 31) (hk : k ≤ 400) (hDk : D ≤ k) {w : Int32} (hw : 0 ≤ w ∧ w ≤ 1) : zAM l zmX5_way 1 30 0 0 [.ref 1, .int (nI s), .int (nI k), .int w] σ (fun v σ' => v = some (.int (-1)) ∧ σ' = σ) := by
  refine zAM.of (by decide +kernel) (Nat.le_of_ble_eq_true rfl) ?_
  have hss : 0 ≤ nI s ∧ nI s < nI n := ⟨nI_pos' (by omega), nI_lt hs (by omega)⟩
  refine zw_aload_n dX5_way_0 rfl ?_
  refine zw_getR dX5_way_1 zfX5_19 rfl (xk_1 h) (by decide) (xg_5_1 h) ?_
  refine zw_iload_n dX5_way_4 rfl ?_
  refine zw_callV (y' := zmX3_hasState) dX5_way_5 zlX5_146 zmX3_hasState_ok (xk_8 h) (by decide) rfl (c_X3_hasState h _) rfl rfl (Nat.le_of_ble_eq_true rfl) ⟨Nat.le_of_ble_eq_true rfl, Nat.le_of_ble_eq_true rfl⟩ ⟨Nat.le_of_ble_eq_true rfl, Nat.le_of_ble_eq_true rfl⟩ ?_
  intro v5 s5 q5
  obtain ⟨rfl, z5⟩ := q5
  rw [z5]
  clear z5
  rw [hS, zb_t hss]
  refine zw_ifne (tgt := 21) dX5_way_8 (by decide) (fun c8 => ?_) (fun c8 => ?_)
  · refine zw_iload_n dX5_way_21 rfl ?_
    refine zw_iconst (x := 0) dX5_way_22 rfl ?_
    refine zw_sipush (x := 400) dX5_way_23 rfl ?_
    refine zw_callS (y' := zmX5_isBetween) dX5_way_26 zlX5_37 zmX5_isBetween_ok (c_X5_isBetween _ _ _) rfl rfl (Nat.le_of_ble_eq_true rfl) ⟨Nat.le_of_ble_eq_true rfl, Nat.le_of_ble_eq_true rfl⟩ ⟨Nat.le_of_ble_eq_true rfl, Nat.le_of_ble_eq_true rfl⟩ ?_
    intro v26 s26 q26
    obtain ⟨rfl, z26⟩ := q26
    rw [z26]
    clear z26
    rw [zb_t (show 0 ≤ nI k ∧ nI k ≤ 400 from ⟨nI_pos' (by omega), nI_le (b := 400) hk (by decide)⟩)]
    refine zw_ifne (tgt := 42) dX5_way_29 (by decide) (fun c29 => ?_) (fun c29 => ?_)
    · refine zw_iload_n dX5_way_42 rfl ?_
      refine zw_iconst (x := 0) dX5_way_43 rfl ?_
      refine zw_iconst (x := 1) dX5_way_44 rfl ?_
      refine zw_callS (y' := zmX5_isBetween) dX5_way_45 zlX5_37 zmX5_isBetween_ok (c_X5_isBetween _ _ _) rfl rfl (Nat.le_of_ble_eq_true rfl) ⟨Nat.le_of_ble_eq_true rfl, Nat.le_of_ble_eq_true rfl⟩ ⟨Nat.le_of_ble_eq_true rfl, Nat.le_of_ble_eq_true rfl⟩ ?_
      intro v45 s45 q45
      obtain ⟨rfl, z45⟩ := q45
      rw [z45]
      clear z45
      rw [zb_t hw]
      refine zw_ifne (tgt := 61) dX5_way_48 (by decide) (fun c48 => ?_) (fun c48 => ?_)
      · refine zw_iload_n dX5_way_61 rfl ?_
        refine zw_aload_n dX5_way_62 rfl ?_
        refine zw_getR dX5_way_63 zfX5_19 rfl (xk_1 h) (by decide) (xg_5_1 h) ?_
        refine zw_iload_n dX5_way_66 rfl ?_
        refine zw_callV (y' := zmX3_depthOf) dX5_way_67 zlX5_154 zmX3_depthOf_ok (xk_8 h) (by decide) rfl (c_X3_depthOf h (show s < 400 by omega)) rfl rfl (Nat.le_of_ble_eq_true rfl) ⟨Nat.le_of_ble_eq_true rfl, Nat.le_of_ble_eq_true rfl⟩ ⟨Nat.le_of_ble_eq_true rfl, Nat.le_of_ble_eq_true rfl⟩ ?_
        intro v67 s67 q67
        obtain ⟨rfl, z67⟩ := q67
        rw [z67]
        clear z67
        rw [hD]
        refine zw_icmplt (tgt := 75) dX5_way_70 (by decide) (fun c70 => ?_) (fun c70 => ?_)
        · exact absurd c70 (fun q => absurd ((nI_ltI (by omega) (by omega)).mp q) (by omega))
        · refine zw_iconst (x := -1) dX5_way_73 rfl ?_
          refine zw_iret dX5_way_74 rfl rfl ?_
          exact ⟨rfl, rfl⟩
      · exact absurd c48 (by decide)
    · exact absurd c29 (by decide)
  · exact absurd c8 (by decide)
