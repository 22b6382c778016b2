/-! the reference's methods behind one call of the class -/
def lKp (σ σ' : zS) : Prop := zK σ' = zK σ ∧ zL σ' = zL σ ∧ zJ σ' = zJ σ
theorem lKp_rf (σ : zS) : lKp σ σ := ⟨rfl, rfl, rfl⟩
theorem lKp_F {σ σ' : zS} {c k a : Nat} {x : Int32} (h : lKp σ σ') : lKp σ (zsF σ' c k a x) := h
theorem lKp_I {σ σ' : zS} {a i : Nat} {x : Int32} (h : lKp σ σ') : lKp σ (zsI σ' a i x) := h
theorem lKp_c {σ a b : zS} (e : b = a) (h : lKp σ a) : lKp σ b := by rw [e]; exact h
theorem zw_gen {l : Launch} {y : zM} {R : Room} {pc : Nat} {lc : List (Nat × Value)} {st : List Value} {σ : zS} {uc us : Nat} {Q : Option Value → zS → Prop} (kk : ∀ g, g = σ → zAW l y R pc lc st g uc us Q) : zAW l y R pc lc st σ uc us Q := kk σ rfl
theorem lSh_I {xs : Nat → Int32} {σ : zS} {a i : Nat} {x : Int32} (ha : 0 ≠ a) (h : lSh xs σ) : lSh xs (zsI σ a i x) := ⟨(show zK σ 0 = 100 from lk_0 h), (show zK σ 1 = 5 from lk_1 h), (show zK σ 30 = 6 from lk_30 h), (show zK σ 31 = 100 from lk_31 h), (show zK σ 32 = 100 from lk_32 h), (show zK σ 33 = 100 from lk_33 h), (show zK σ 53 = 104 from lk_53 h), (show zL σ 0 = 6 from ll_0 h), (show zL σ 31 = 5 from ll_31 h), (show zL σ 32 = 4 from ll_32 h), (show zL σ 33 = 4 from ll_33 h), (show zL σ 53 = 1 from ll_53 h), (show zG σ 6 2 30 = some 31 from lg_2 h), (show zG σ 6 4 30 = some 32 from lg_4 h), (show zG σ 6 5 30 = some 33 from lg_5 h), (show zF σ 6 1 30 = 0 from lf_1 h), (show zF σ 6 3 30 = 0 from lf_3 h), (show zF σ 6 8 30 = 0 from lf_8 h), (show zF σ 6 10 30 = 0 from lf_10 h), (show zF σ 6 11 30 = 0 from lf_11 h), funext fun j => by rw [zI_zsI, if_neg (fun q => ha q.1), lx_0 h]⟩
set_option maxHeartbeats 4000000 in
set_option maxRecDepth 100000 in
theorem c1_X6_isIn {l : Launch} {xs : Nat → Int32} {σ : zS}  (x a b : Int32) : zAM l zmX6_isIn 0 0 0 0 [.int x, .int a, .int b] σ (fun v σ' => ((v = some (.int 1) ∧ a ≤ x ∧ x ≤ b) ∨ (v = some (.int 0) ∧ ¬ (a ≤ x ∧ x ≤ b))) ∧ σ' = σ) := by
  have r0 := lKp_rf σ
  refine zAM.of (by decide +kernel) (Nat.le_of_ble_eq_true rfl) ?_
  refine zw_iload_n dX6_isIn_0 rfl ?_
  refine zw_iload_n dX6_isIn_1 rfl ?_
  refine zw_icmplt (tgt := 14) dX6_isIn_2 (by decide) (fun c2 => ?_) (fun c2 => ?_)
  · refine zw_iconst (x := 0) dX6_isIn_14 rfl ?_
    refine zw_iret dX6_isIn_15 rfl rfl ?_
    exact ⟨Or.inr ⟨rfl, fun h => absurd h.1 (Int32.not_le.mpr c2)⟩, rfl⟩
  · refine zw_iload_n dX6_isIn_5 rfl ?_
    refine zw_iload_n dX6_isIn_6 rfl ?_
    refine zw_icmpgt (tgt := 14) dX6_isIn_7 (by decide) (fun c7 => ?_) (fun c7 => ?_)
    · refine zw_iconst (x := 0) dX6_isIn_14 rfl ?_
      refine zw_iret dX6_isIn_15 rfl rfl ?_
      exact ⟨Or.inr ⟨rfl, fun h => absurd h.2 (Int32.not_le.mpr c7)⟩, rfl⟩
    · refine zw_iconst (x := 1) dX6_isIn_10 rfl ?_
      refine zw_goto (tgt := 15) dX6_isIn_11 (by decide) ?_
      refine zw_iret dX6_isIn_15 rfl rfl ?_
      exact ⟨Or.inl ⟨rfl, Int32.not_lt.mp c2, Int32.not_lt.mp c7⟩, rfl⟩
set_option maxHeartbeats 4000000 in
set_option maxRecDepth 100000 in
theorem c1_X6_isProcess {l : Launch} {xs : Nat → Int32} {σ : zS} (h : lSh xs σ) (p : Int32) : zAM l zmX6_isProcess 1 22 0 0 [.ref 30, .int p] σ (fun v σ' => v = some (.int 0) ∧ σ' = σ) := by
  have r0 := lKp_rf σ
  refine zAM.of (by decide +kernel) (Nat.le_of_ble_eq_true rfl) ?_
  refine zw_iload_n dX6_isProcess_0 rfl ?_
  refine zw_iconst (x := 0) dX6_isProcess_1 rfl ?_
  refine zw_aload_n dX6_isProcess_2 rfl ?_
  refine zw_getIv (x := 0) dX6_isProcess_3 zfX6_69 rfl (lk_30 h) (by decide) (lf_1 h) ?_
  refine zw_iconst (x := 1) dX6_isProcess_6 rfl ?_
  refine zw_isub dX6_isProcess_7 ?_
  refine zw_callS (y' := zmX6_isIn) dX6_isProcess_8 zlX6_72 zmX6_isIn_ok (c1_X6_isIn (xs := xs) _ _ _) rfl rfl (Nat.le_of_ble_eq_true rfl) ⟨Nat.le_of_ble_eq_true rfl, Nat.le_of_ble_eq_true rfl⟩ ⟨Nat.le_of_ble_eq_true rfl, Nat.le_of_ble_eq_true rfl⟩ ?_
  intro v8 s8 q8
  rcases q8 with ⟨⟨rfl, hb8⟩ | ⟨rfl, hb8⟩, rfl⟩
  · exact absurd (Int32.le_trans hb8.1 hb8.2) (by decide)
  · skip
    refine zw_iret dX6_isProcess_11 rfl rfl ?_
    exact ⟨rfl, rfl⟩
set_option maxHeartbeats 4000000 in
set_option maxRecDepth 100000 in
theorem c1_X6_isVariable {l : Launch} {xs : Nat → Int32} {σ : zS} (h : lSh xs σ) (p : Int32) : zAM l zmX6_isVariable 1 22 0 0 [.ref 30, .int p] σ (fun v σ' => v = some (.int 0) ∧ σ' = σ) := by
  have r0 := lKp_rf σ
  refine zAM.of (by decide +kernel) (Nat.le_of_ble_eq_true rfl) ?_
  refine zw_iload_n dX6_isVariable_0 rfl ?_
  refine zw_iconst (x := 0) dX6_isVariable_1 rfl ?_
  refine zw_aload_n dX6_isVariable_2 rfl ?_
  refine zw_getIv (x := 0) dX6_isVariable_3 zfX6_76 rfl (lk_30 h) (by decide) (lf_3 h) ?_
  refine zw_iconst (x := 1) dX6_isVariable_6 rfl ?_
  refine zw_isub dX6_isVariable_7 ?_
  refine zw_callS (y' := zmX6_isIn) dX6_isVariable_8 zlX6_72 zmX6_isIn_ok (c1_X6_isIn (xs := xs) _ _ _) rfl rfl (Nat.le_of_ble_eq_true rfl) ⟨Nat.le_of_ble_eq_true rfl, Nat.le_of_ble_eq_true rfl⟩ ⟨Nat.le_of_ble_eq_true rfl, Nat.le_of_ble_eq_true rfl⟩ ?_
  intro v8 s8 q8
  rcases q8 with ⟨⟨rfl, hb8⟩ | ⟨rfl, hb8⟩, rfl⟩
  · exact absurd (Int32.le_trans hb8.1 hb8.2) (by decide)
  · skip
    refine zw_iret dX6_isVariable_11 rfl rfl ?_
    exact ⟨rfl, rfl⟩
set_option maxHeartbeats 4000000 in
set_option maxRecDepth 100000 in
theorem c1_X6_isFact {l : Launch} {xs : Nat → Int32} {σ : zS} (h : lSh xs σ) (p : Int32) : zAM l zmX6_isFact 1 22 0 0 [.ref 30, .int p] σ (fun v σ' => v = some (.int 0) ∧ σ' = σ) := by
  have r0 := lKp_rf σ
  refine zAM.of (by decide +kernel) (Nat.le_of_ble_eq_true rfl) ?_
  refine zw_iload_n dX6_isFact_0 rfl ?_
  refine zw_iconst (x := 0) dX6_isFact_1 rfl ?_
  refine zw_aload_n dX6_isFact_2 rfl ?_
  refine zw_getIv (x := 0) dX6_isFact_3 zfX6_79 rfl (lk_30 h) (by decide) (lf_8 h) ?_
  refine zw_iconst (x := 1) dX6_isFact_6 rfl ?_
  refine zw_isub dX6_isFact_7 ?_
  refine zw_callS (y' := zmX6_isIn) dX6_isFact_8 zlX6_72 zmX6_isIn_ok (c1_X6_isIn (xs := xs) _ _ _) rfl rfl (Nat.le_of_ble_eq_true rfl) ⟨Nat.le_of_ble_eq_true rfl, Nat.le_of_ble_eq_true rfl⟩ ⟨Nat.le_of_ble_eq_true rfl, Nat.le_of_ble_eq_true rfl⟩ ?_
  intro v8 s8 q8
  rcases q8 with ⟨⟨rfl, hb8⟩ | ⟨rfl, hb8⟩, rfl⟩
  · exact absurd (Int32.le_trans hb8.1 hb8.2) (by decide)
  · skip
    refine zw_iret dX6_isFact_11 rfl rfl ?_
    exact ⟨rfl, rfl⟩
set_option maxHeartbeats 4000000 in
set_option maxRecDepth 100000 in
theorem c1_X6_isState {l : Launch} {xs : Nat → Int32} {σ : zS} (h : lSh xs σ) (p : Int32) : zAM l zmX6_isState 1 22 0 0 [.ref 30, .int p] σ (fun v σ' => v = some (.int 0) ∧ σ' = σ) := by
  have r0 := lKp_rf σ
  refine zAM.of (by decide +kernel) (Nat.le_of_ble_eq_true rfl) ?_
  refine zw_iload_n dX6_isState_0 rfl ?_
  refine zw_iconst (x := 0) dX6_isState_1 rfl ?_
  refine zw_aload_n dX6_isState_2 rfl ?_
  refine zw_getIv (x := 0) dX6_isState_3 zfX6_82 rfl (lk_30 h) (by decide) (lf_10 h) ?_
  refine zw_iconst (x := 1) dX6_isState_6 rfl ?_
  refine zw_isub dX6_isState_7 ?_
  refine zw_callS (y' := zmX6_isIn) dX6_isState_8 zlX6_72 zmX6_isIn_ok (c1_X6_isIn (xs := xs) _ _ _) rfl rfl (Nat.le_of_ble_eq_true rfl) ⟨Nat.le_of_ble_eq_true rfl, Nat.le_of_ble_eq_true rfl⟩ ⟨Nat.le_of_ble_eq_true rfl, Nat.le_of_ble_eq_true rfl⟩ ?_
  intro v8 s8 q8
  rcases q8 with ⟨⟨rfl, hb8⟩ | ⟨rfl, hb8⟩, rfl⟩
  · exact absurd (Int32.le_trans hb8.1 hb8.2) (by decide)
  · skip
    refine zw_iret dX6_isState_11 rfl rfl ?_
    exact ⟨rfl, rfl⟩
set_option maxHeartbeats 4000000 in
set_option maxRecDepth 100000 in
theorem c1_X6_fail {l : Launch} {xs : Nat → Int32} {σ : zS} (hk : zK σ 30 = 6) (k : Int32) : zAM l zmX6_fail 0 0 0 0 [.ref 30, .int k] σ (fun v σ' => v = some (.int 0) ∧ σ' = zsF σ 6 0 30 k) := by
  have r0 := lKp_rf σ
  refine zAM.of (by decide +kernel) (Nat.le_of_ble_eq_true rfl) ?_
  refine zw_aload_n dX6_fail_0 rfl ?_
  refine zw_iload_n dX6_fail_1 rfl ?_
  refine zw_putI dX6_fail_2 zfX6_65 rfl rfl ⟨rfl, rfl⟩ hk (by decide) ?_
  refine zw_iconst (x := 0) dX6_fail_5 rfl ?_
  refine zw_iret dX6_fail_6 rfl rfl ?_
  exact ⟨rfl, rfl⟩
set_option maxHeartbeats 4000000 in
set_option maxRecDepth 100000 in
theorem c1_X6_thrown {l : Launch} {xs : Nat → Int32} {σ : zS} (hk : zK σ 30 = 6)  : zAM l zmX6_thrown 0 0 0 0 [.ref 30] σ (fun v σ' => v = some (.int (zF σ 6 0 30)) ∧ σ' = σ) := by
  have r0 := lKp_rf σ
  refine zAM.of (by decide +kernel) (Nat.le_of_ble_eq_true rfl) ?_
  refine zw_aload_n dX6_thrown_0 rfl ?_
  refine zw_getI dX6_thrown_1 zfX6_65 rfl hk (by decide) ?_
  refine zw_iret dX6_thrown_4 rfl rfl ?_
  exact ⟨rfl, rfl⟩
set_option maxHeartbeats 4000000 in
set_option maxRecDepth 100000 in
theorem c1_X6_forget {l : Launch} {xs : Nat → Int32} {σ : zS} (hk : zK σ 30 = 6) : zAM l zmX6_forget 0 0 0 0 [.ref 30] σ (fun v σ' => v = none ∧ σ' = zsF (zsF σ 6 10 30 0) 6 11 30 0) := by
  refine zAM.of (by decide +kernel) (Nat.le_of_ble_eq_true rfl) ?_
  refine zw_aload_n dX6_forget_0 rfl ?_
  refine zw_iconst (x := 0) dX6_forget_1 rfl ?_
  refine zw_putI dX6_forget_2 zfX6_82 rfl rfl ⟨rfl, rfl⟩ hk (by decide) ?_
  refine zw_aload_n dX6_forget_5 rfl ?_
  refine zw_iconst (x := 0) dX6_forget_6 rfl ?_
  refine zw_putI dX6_forget_7 zfX6_85 rfl rfl ⟨rfl, rfl⟩ hk (by decide) ?_
  refine zw_vret dX6_forget_10 rfl ?_
  exact ⟨rfl, rfl⟩
set_option maxHeartbeats 4000000 in
set_option maxRecDepth 100000 in
theorem c1_X6_set {l : Launch} {xs : Nat → Int32} {σ : zS} (h : lSh xs σ) (p q r s t u v : Int32) : zAM l zmX6_set 2 43 0 0 [.ref 30, .int p, .int q, .int r, .int s, .int t, .int u, .int v] σ (fun v σ' => (∃ b, v = some (.int b)) ∧ zF σ' 6 0 30 = 1 ∧ lKp σ σ') := by
  have r0 := lKp_rf σ
  refine zAM.of (by decide +kernel) (Nat.le_of_ble_eq_true rfl) ?_
  refine zw_aload_n dX6_set_0 rfl ?_
  refine zw_iconst (x := 0) dX6_set_1 rfl ?_
  refine zw_putI dX6_set_2 zfX6_65 rfl rfl ⟨rfl, rfl⟩ (lk_30 h) (by decide) ?_
  refine zw_gen (fun g1 e1 => ?_)
  have h1 : lSh xs g1 := by rw [e1]; exact lSh_F0 h
  have t1 : zF g1 6 0 30 = 0 := by rw [e1, zF_zsF, if_pos ⟨rfl, rfl, rfl⟩]
  have r1 := lKp_c e1 (lKp_F r0)
  refine zw_aload_n dX6_set_5 rfl ?_
  refine zw_iload_n dX6_set_6 rfl ?_
  refine zw_callV (y' := zmX6_isProcess) dX6_set_7 zlX6_95 zmX6_isProcess_ok (lk_30 h1) (by decide) rfl (c1_X6_isProcess h1 _) rfl rfl (Nat.le_of_ble_eq_true rfl) ⟨Nat.le_of_ble_eq_true rfl, Nat.le_of_ble_eq_true rfl⟩ ⟨Nat.le_of_ble_eq_true rfl, Nat.le_of_ble_eq_true rfl⟩ ?_
  intro v7 s7 q7
  obtain ⟨rfl, rfl⟩ := q7
  refine zw_ifeq (tgt := 29) dX6_set_10 (by decide) (fun c10 => ?_) (fun c10 => absurd c10 (by decide))
  refine zw_aload_n dX6_set_29 rfl ?_
  refine zw_iconst (x := 1) dX6_set_30 rfl ?_
  refine zw_callV (y' := zmX6_fail) dX6_set_31 zlX6_88 zmX6_fail_ok (lk_30 h1) (by decide) rfl (c1_X6_fail (xs := xs) (lk_30 h1) _) rfl rfl (Nat.le_of_ble_eq_true rfl) ⟨Nat.le_of_ble_eq_true rfl, Nat.le_of_ble_eq_true rfl⟩ ⟨Nat.le_of_ble_eq_true rfl, Nat.le_of_ble_eq_true rfl⟩ ?_
  intro v31 s31 q31
  obtain ⟨rfl, rfl⟩ := q31
  refine zw_iret dX6_set_34 rfl rfl ?_
  exact ⟨⟨_, rfl⟩, (by rw [zF_zsF, if_pos ⟨rfl, rfl, rfl⟩]), (lKp_F r1)⟩
set_option maxHeartbeats 4000000 in
set_option maxRecDepth 100000 in
theorem c1_X6_addMove {l : Launch} {xs : Nat → Int32} {σ : zS} (h : lSh xs σ) (p q r s : Int32) : zAM l zmX6_addMove 2 43 0 0 [.ref 30, .int p, .int q, .int r, .int s] σ (fun v σ' => (∃ b, v = some (.int b)) ∧ zF σ' 6 0 30 = 1 ∧ lKp σ σ') := by
  have r0 := lKp_rf σ
  refine zAM.of (by decide +kernel) (Nat.le_of_ble_eq_true rfl) ?_
  refine zw_aload_n dX6_addMove_0 rfl ?_
  refine zw_iconst (x := 0) dX6_addMove_1 rfl ?_
  refine zw_putI dX6_addMove_2 zfX6_65 rfl rfl ⟨rfl, rfl⟩ (lk_30 h) (by decide) ?_
  refine zw_gen (fun g2 e2 => ?_)
  have h2 : lSh xs g2 := by rw [e2]; exact lSh_F0 h
  have t2 : zF g2 6 0 30 = 0 := by rw [e2, zF_zsF, if_pos ⟨rfl, rfl, rfl⟩]
  have r2 := lKp_c e2 (lKp_F r0)
  refine zw_aload_n dX6_addMove_5 rfl ?_
  refine zw_iload_n dX6_addMove_6 rfl ?_
  refine zw_callV (y' := zmX6_isProcess) dX6_addMove_7 zlX6_95 zmX6_isProcess_ok (lk_30 h2) (by decide) rfl (c1_X6_isProcess h2 _) rfl rfl (Nat.le_of_ble_eq_true rfl) ⟨Nat.le_of_ble_eq_true rfl, Nat.le_of_ble_eq_true rfl⟩ ⟨Nat.le_of_ble_eq_true rfl, Nat.le_of_ble_eq_true rfl⟩ ?_
  intro v7 s7 q7
  obtain ⟨rfl, rfl⟩ := q7
  refine zw_ifne (tgt := 19) dX6_addMove_10 (by decide) (fun c10 => absurd c10 (by decide)) (fun c10 => ?_)
  refine zw_aload_n dX6_addMove_13 rfl ?_
  refine zw_iconst (x := 1) dX6_addMove_14 rfl ?_
  refine zw_callV (y' := zmX6_fail) dX6_addMove_15 zlX6_88 zmX6_fail_ok (lk_30 h2) (by decide) rfl (c1_X6_fail (xs := xs) (lk_30 h2) _) rfl rfl (Nat.le_of_ble_eq_true rfl) ⟨Nat.le_of_ble_eq_true rfl, Nat.le_of_ble_eq_true rfl⟩ ⟨Nat.le_of_ble_eq_true rfl, Nat.le_of_ble_eq_true rfl⟩ ?_
  intro v15 s15 q15
  obtain ⟨rfl, rfl⟩ := q15
  refine zw_iret dX6_addMove_18 rfl rfl ?_
  exact ⟨⟨_, rfl⟩, (by rw [zF_zsF, if_pos ⟨rfl, rfl, rfl⟩]), (lKp_F r2)⟩
set_option maxHeartbeats 4000000 in
set_option maxRecDepth 100000 in
theorem c1_X6_guard {l : Launch} {xs : Nat → Int32} {σ : zS} (h : lSh xs σ) (p q r s t : Int32) : zAM l zmX6_guard 3 72 0 0 [.ref 30, .int p, .int q, .int r, .int s, .int t] σ (fun v σ' => (∃ b, v = some (.int b)) ∧ zF σ' 6 0 30 = 1 ∧ lKp σ σ') := by
  have r0 := lKp_rf σ
  refine zAM.of (by decide +kernel) (Nat.le_of_ble_eq_true rfl) ?_
  refine zw_aload_n dX6_guard_0 rfl ?_
  refine zw_iload_n dX6_guard_1 rfl ?_
  refine zw_iload_n dX6_guard_2 rfl ?_
  refine zw_iload_n dX6_guard_3 rfl ?_
  refine zw_iconst (x := 0) dX6_guard_4 rfl ?_
  refine zw_iconst (x := 4) dX6_guard_5 rfl ?_
  refine zw_callS (y' := zmX6_isIn) dX6_guard_6 zlX6_72 zmX6_isIn_ok (c1_X6_isIn (xs := xs) _ _ _) rfl rfl (Nat.le_of_ble_eq_true rfl) ⟨Nat.le_of_ble_eq_true rfl, Nat.le_of_ble_eq_true rfl⟩ ⟨Nat.le_of_ble_eq_true rfl, Nat.le_of_ble_eq_true rfl⟩ ?_
  intro v6 s6 q6
  rcases q6 with ⟨⟨rfl, hb6⟩ | ⟨rfl, hb6⟩, rfl⟩
  · skip
    refine zw_ifeq (tgt := 27) dX6_guard_9 (by decide) (fun c9 => absurd c9 (by decide)) (fun c9 => ?_)
    refine zw_iload dX6_guard_12 rfl ?_
    refine zw_iconst (x := 0) dX6_guard_14 rfl ?_
    refine zw_bipush (x := 9) dX6_guard_15 rfl ?_
    refine zw_callS (y' := zmX6_isIn) dX6_guard_17 zlX6_72 zmX6_isIn_ok (c1_X6_isIn (xs := xs) _ _ _) rfl rfl (Nat.le_of_ble_eq_true rfl) ⟨Nat.le_of_ble_eq_true rfl, Nat.le_of_ble_eq_true rfl⟩ ⟨Nat.le_of_ble_eq_true rfl, Nat.le_of_ble_eq_true rfl⟩ ?_
    intro v17 s17 q17
    rcases q17 with ⟨⟨rfl, hb17⟩ | ⟨rfl, hb17⟩, rfl⟩
    · skip
      refine zw_ifeq (tgt := 27) dX6_guard_20 (by decide) (fun c20 => absurd c20 (by decide)) (fun c20 => ?_)
      refine zw_iconst (x := 1) dX6_guard_23 rfl ?_
      refine zw_goto (tgt := 28) dX6_guard_24 (by decide) ?_
      refine zw_iconst (x := 3) dX6_guard_28 rfl ?_
      refine zw_iload_n dX6_guard_29 rfl ?_
      refine zw_iload dX6_guard_30 rfl ?_
      refine zw_iload dX6_guard_32 rfl ?_
      refine zw_callV (y' := zmX6_set) dX6_guard_34 zlX6_112 zmX6_set_ok (lk_30 h) (by decide) rfl (c1_X6_set h _ _ _ _ _ _ _) rfl rfl (Nat.le_of_ble_eq_true rfl) ⟨Nat.le_of_ble_eq_true rfl, Nat.le_of_ble_eq_true rfl⟩ ⟨Nat.le_of_ble_eq_true rfl, Nat.le_of_ble_eq_true rfl⟩ ?_
      intro v34 s34 q34
      obtain ⟨⟨bq, rfl⟩, tq, rq⟩ := q34
      refine zw_iret dX6_guard_37 rfl rfl ?_
      exact ⟨⟨_, rfl⟩, tq, rq⟩
    · skip
      refine zw_ifeq (tgt := 27) dX6_guard_20 (by decide) (fun c20 => ?_) (fun c20 => absurd c20 (by decide))
      refine zw_iconst (x := 0) dX6_guard_27 rfl ?_
      refine zw_iconst (x := 3) dX6_guard_28 rfl ?_
      refine zw_iload_n dX6_guard_29 rfl ?_
      refine zw_iload dX6_guard_30 rfl ?_
      refine zw_iload dX6_guard_32 rfl ?_
      refine zw_callV (y' := zmX6_set) dX6_guard_34 zlX6_112 zmX6_set_ok (lk_30 h) (by decide) rfl (c1_X6_set h _ _ _ _ _ _ _) rfl rfl (Nat.le_of_ble_eq_true rfl) ⟨Nat.le_of_ble_eq_true rfl, Nat.le_of_ble_eq_true rfl⟩ ⟨Nat.le_of_ble_eq_true rfl, Nat.le_of_ble_eq_true rfl⟩ ?_
      intro v34 s34 q34
      obtain ⟨⟨bq, rfl⟩, tq, rq⟩ := q34
      refine zw_iret dX6_guard_37 rfl rfl ?_
      exact ⟨⟨_, rfl⟩, tq, rq⟩
  · skip
    refine zw_ifeq (tgt := 27) dX6_guard_9 (by decide) (fun c9 => ?_) (fun c9 => absurd c9 (by decide))
    refine zw_iconst (x := 0) dX6_guard_27 rfl ?_
    refine zw_iconst (x := 3) dX6_guard_28 rfl ?_
    refine zw_iload_n dX6_guard_29 rfl ?_
    refine zw_iload dX6_guard_30 rfl ?_
    refine zw_iload dX6_guard_32 rfl ?_
    refine zw_callV (y' := zmX6_set) dX6_guard_34 zlX6_112 zmX6_set_ok (lk_30 h) (by decide) rfl (c1_X6_set h _ _ _ _ _ _ _) rfl rfl (Nat.le_of_ble_eq_true rfl) ⟨Nat.le_of_ble_eq_true rfl, Nat.le_of_ble_eq_true rfl⟩ ⟨Nat.le_of_ble_eq_true rfl, Nat.le_of_ble_eq_true rfl⟩ ?_
    intro v34 s34 q34
    obtain ⟨⟨bq, rfl⟩, tq, rq⟩ := q34
    refine zw_iret dX6_guard_37 rfl rfl ?_
    exact ⟨⟨_, rfl⟩, tq, rq⟩
set_option maxHeartbeats 4000000 in
set_option maxRecDepth 100000 in
theorem c1_X6_deed {l : Launch} {xs : Nat → Int32} {σ : zS} (h : lSh xs σ) (p q r s t : Int32) : zAM l zmX6_deed 3 72 0 0 [.ref 30, .int p, .int q, .int r, .int s, .int t] σ (fun v σ' => (∃ b, v = some (.int b)) ∧ zF σ' 6 0 30 = 1 ∧ lKp σ σ') := by
  have r0 := lKp_rf σ
  refine zAM.of (by decide +kernel) (Nat.le_of_ble_eq_true rfl) ?_
  refine zw_aload_n dX6_deed_0 rfl ?_
  refine zw_iload_n dX6_deed_1 rfl ?_
  refine zw_iload_n dX6_deed_2 rfl ?_
  refine zw_iload_n dX6_deed_3 rfl ?_
  refine zw_iconst (x := 0) dX6_deed_4 rfl ?_
  refine zw_iconst (x := 2) dX6_deed_5 rfl ?_
  refine zw_callS (y' := zmX6_isIn) dX6_deed_6 zlX6_72 zmX6_isIn_ok (c1_X6_isIn (xs := xs) _ _ _) rfl rfl (Nat.le_of_ble_eq_true rfl) ⟨Nat.le_of_ble_eq_true rfl, Nat.le_of_ble_eq_true rfl⟩ ⟨Nat.le_of_ble_eq_true rfl, Nat.le_of_ble_eq_true rfl⟩ ?_
  intro v6 s6 q6
  rcases q6 with ⟨⟨rfl, hb6⟩ | ⟨rfl, hb6⟩, rfl⟩
  · skip
    refine zw_ifeq (tgt := 28) dX6_deed_9 (by decide) (fun c9 => absurd c9 (by decide)) (fun c9 => ?_)
    refine zw_iload dX6_deed_12 rfl ?_
    refine zw_bipush (x := -9) dX6_deed_14 rfl ?_
    refine zw_bipush (x := 9) dX6_deed_16 rfl ?_
    refine zw_callS (y' := zmX6_isIn) dX6_deed_18 zlX6_72 zmX6_isIn_ok (c1_X6_isIn (xs := xs) _ _ _) rfl rfl (Nat.le_of_ble_eq_true rfl) ⟨Nat.le_of_ble_eq_true rfl, Nat.le_of_ble_eq_true rfl⟩ ⟨Nat.le_of_ble_eq_true rfl, Nat.le_of_ble_eq_true rfl⟩ ?_
    intro v18 s18 q18
    rcases q18 with ⟨⟨rfl, hb18⟩ | ⟨rfl, hb18⟩, rfl⟩
    · skip
      refine zw_ifeq (tgt := 28) dX6_deed_21 (by decide) (fun c21 => absurd c21 (by decide)) (fun c21 => ?_)
      refine zw_iconst (x := 1) dX6_deed_24 rfl ?_
      refine zw_goto (tgt := 29) dX6_deed_25 (by decide) ?_
      refine zw_bipush (x := 6) dX6_deed_29 rfl ?_
      refine zw_iload_n dX6_deed_31 rfl ?_
      refine zw_iload dX6_deed_32 rfl ?_
      refine zw_iload dX6_deed_34 rfl ?_
      refine zw_callV (y' := zmX6_set) dX6_deed_36 zlX6_112 zmX6_set_ok (lk_30 h) (by decide) rfl (c1_X6_set h _ _ _ _ _ _ _) rfl rfl (Nat.le_of_ble_eq_true rfl) ⟨Nat.le_of_ble_eq_true rfl, Nat.le_of_ble_eq_true rfl⟩ ⟨Nat.le_of_ble_eq_true rfl, Nat.le_of_ble_eq_true rfl⟩ ?_
      intro v36 s36 q36
      obtain ⟨⟨bq, rfl⟩, tq, rq⟩ := q36
      refine zw_iret dX6_deed_39 rfl rfl ?_
      exact ⟨⟨_, rfl⟩, tq, rq⟩
    · skip
      refine zw_ifeq (tgt := 28) dX6_deed_21 (by decide) (fun c21 => ?_) (fun c21 => absurd c21 (by decide))
      refine zw_iconst (x := 0) dX6_deed_28 rfl ?_
      refine zw_bipush (x := 6) dX6_deed_29 rfl ?_
      refine zw_iload_n dX6_deed_31 rfl ?_
      refine zw_iload dX6_deed_32 rfl ?_
      refine zw_iload dX6_deed_34 rfl ?_
      refine zw_callV (y' := zmX6_set) dX6_deed_36 zlX6_112 zmX6_set_ok (lk_30 h) (by decide) rfl (c1_X6_set h _ _ _ _ _ _ _) rfl rfl (Nat.le_of_ble_eq_true rfl) ⟨Nat.le_of_ble_eq_true rfl, Nat.le_of_ble_eq_true rfl⟩ ⟨Nat.le_of_ble_eq_true rfl, Nat.le_of_ble_eq_true rfl⟩ ?_
      intro v36 s36 q36
      obtain ⟨⟨bq, rfl⟩, tq, rq⟩ := q36
      refine zw_iret dX6_deed_39 rfl rfl ?_
      exact ⟨⟨_, rfl⟩, tq, rq⟩
  · skip
    refine zw_ifeq (tgt := 28) dX6_deed_9 (by decide) (fun c9 => ?_) (fun c9 => absurd c9 (by decide))
    refine zw_iconst (x := 0) dX6_deed_28 rfl ?_
    refine zw_bipush (x := 6) dX6_deed_29 rfl ?_
    refine zw_iload_n dX6_deed_31 rfl ?_
    refine zw_iload dX6_deed_32 rfl ?_
    refine zw_iload dX6_deed_34 rfl ?_
    refine zw_callV (y' := zmX6_set) dX6_deed_36 zlX6_112 zmX6_set_ok (lk_30 h) (by decide) rfl (c1_X6_set h _ _ _ _ _ _ _) rfl rfl (Nat.le_of_ble_eq_true rfl) ⟨Nat.le_of_ble_eq_true rfl, Nat.le_of_ble_eq_true rfl⟩ ⟨Nat.le_of_ble_eq_true rfl, Nat.le_of_ble_eq_true rfl⟩ ?_
    intro v36 s36 q36
    obtain ⟨⟨bq, rfl⟩, tq, rq⟩ := q36
    refine zw_iret dX6_deed_39 rfl rfl ?_
    exact ⟨⟨_, rfl⟩, tq, rq⟩
set_option maxHeartbeats 4000000 in
set_option maxRecDepth 100000 in
theorem c1_X6_explore {l : Launch} {xs : Nat → Int32} {σ : zS} (h : lSh xs σ)  : zAM l zmX6_explore 1 27 0 0 [.ref 30] σ (fun v σ' => (∃ b, v = some (.int b)) ∧ zF σ' 6 0 30 = 1 ∧ lKp σ σ') := by
  have r0 := lKp_rf σ
  refine zAM.of (by decide +kernel) (Nat.le_of_ble_eq_true rfl) ?_
  refine zw_aload_n dX6_explore_0 rfl ?_
  refine zw_iconst (x := 0) dX6_explore_1 rfl ?_
  refine zw_putI dX6_explore_2 zfX6_65 rfl rfl ⟨rfl, rfl⟩ (lk_30 h) (by decide) ?_
  refine zw_gen (fun g3 e3 => ?_)
  have h3 : lSh xs g3 := by rw [e3]; exact lSh_F0 h
  have t3 : zF g3 6 0 30 = 0 := by rw [e3, zF_zsF, if_pos ⟨rfl, rfl, rfl⟩]
  have r3 := lKp_c e3 (lKp_F r0)
  refine zw_aload_n dX6_explore_5 rfl ?_
  refine zw_getIv (x := 0) dX6_explore_6 zfX6_69 rfl (lk_30 h3) (by decide) (lf_1 h3) ?_
  refine zw_ifne (tgt := 18) dX6_explore_9 (by decide) (fun c9 => absurd c9 (by decide)) (fun c9 => ?_)
  refine zw_aload_n dX6_explore_12 rfl ?_
  refine zw_iconst (x := 1) dX6_explore_13 rfl ?_
  refine zw_callV (y' := zmX6_fail) dX6_explore_14 zlX6_88 zmX6_fail_ok (lk_30 h3) (by decide) rfl (c1_X6_fail (xs := xs) (lk_30 h3) _) rfl rfl (Nat.le_of_ble_eq_true rfl) ⟨Nat.le_of_ble_eq_true rfl, Nat.le_of_ble_eq_true rfl⟩ ⟨Nat.le_of_ble_eq_true rfl, Nat.le_of_ble_eq_true rfl⟩ ?_
  intro v14 s14 q14
  obtain ⟨rfl, rfl⟩ := q14
  refine zw_iret dX6_explore_17 rfl rfl ?_
  exact ⟨⟨_, rfl⟩, (by rw [zF_zsF, if_pos ⟨rfl, rfl, rfl⟩]), (lKp_F r3)⟩
set_option maxHeartbeats 4000000 in
set_option maxRecDepth 100000 in
theorem c1_X6_state {l : Launch} {xs : Nat → Int32} {σ : zS} (h : lSh xs σ) (p q : Int32) : zAM l zmX6_state 2 43 0 0 [.ref 30, .int p, .int q] σ (fun v σ' => (∃ b, v = some (.int b)) ∧ zF σ' 6 0 30 = 1 ∧ lKp σ σ') := by
  have r0 := lKp_rf σ
  refine zAM.of (by decide +kernel) (Nat.le_of_ble_eq_true rfl) ?_
  refine zw_aload_n dX6_state_0 rfl ?_
  refine zw_iconst (x := 0) dX6_state_1 rfl ?_
  refine zw_putI dX6_state_2 zfX6_65 rfl rfl ⟨rfl, rfl⟩ (lk_30 h) (by decide) ?_
  refine zw_gen (fun g4 e4 => ?_)
  have h4 : lSh xs g4 := by rw [e4]; exact lSh_F0 h
  have t4 : zF g4 6 0 30 = 0 := by rw [e4, zF_zsF, if_pos ⟨rfl, rfl, rfl⟩]
  have r4 := lKp_c e4 (lKp_F r0)
  refine zw_aload_n dX6_state_5 rfl ?_
  refine zw_iload_n dX6_state_6 rfl ?_
  refine zw_callV (y' := zmX6_isState) dX6_state_7 zlX6_165 zmX6_isState_ok (lk_30 h4) (by decide) rfl (c1_X6_isState h4 _) rfl rfl (Nat.le_of_ble_eq_true rfl) ⟨Nat.le_of_ble_eq_true rfl, Nat.le_of_ble_eq_true rfl⟩ ⟨Nat.le_of_ble_eq_true rfl, Nat.le_of_ble_eq_true rfl⟩ ?_
  intro v7 s7 q7
  obtain ⟨rfl, rfl⟩ := q7
  refine zw_ifeq (tgt := 57) dX6_state_10 (by decide) (fun c10 => ?_) (fun c10 => absurd c10 (by decide))
  refine zw_aload_n dX6_state_57 rfl ?_
  refine zw_iconst (x := 1) dX6_state_58 rfl ?_
  refine zw_callV (y' := zmX6_fail) dX6_state_59 zlX6_88 zmX6_fail_ok (lk_30 h4) (by decide) rfl (c1_X6_fail (xs := xs) (lk_30 h4) _) rfl rfl (Nat.le_of_ble_eq_true rfl) ⟨Nat.le_of_ble_eq_true rfl, Nat.le_of_ble_eq_true rfl⟩ ⟨Nat.le_of_ble_eq_true rfl, Nat.le_of_ble_eq_true rfl⟩ ?_
  intro v59 s59 q59
  obtain ⟨rfl, rfl⟩ := q59
  refine zw_iret dX6_state_62 rfl rfl ?_
  exact ⟨⟨_, rfl⟩, (by rw [zF_zsF, if_pos ⟨rfl, rfl, rfl⟩]), (lKp_F r4)⟩
set_option maxHeartbeats 4000000 in
set_option maxRecDepth 100000 in
theorem c1_X6_step {l : Launch} {xs : Nat → Int32} {σ : zS} (h : lSh xs σ) (p q r : Int32) : zAM l zmX6_step 2 43 0 0 [.ref 30, .int p, .int q, .int r] σ (fun v σ' => (∃ b, v = some (.int b)) ∧ zF σ' 6 0 30 = 1 ∧ lKp σ σ') := by
  have r0 := lKp_rf σ
  refine zAM.of (by decide +kernel) (Nat.le_of_ble_eq_true rfl) ?_
  refine zw_aload_n dX6_step_0 rfl ?_
  refine zw_iconst (x := 0) dX6_step_1 rfl ?_
  refine zw_putI dX6_step_2 zfX6_65 rfl rfl ⟨rfl, rfl⟩ (lk_30 h) (by decide) ?_
  refine zw_gen (fun g5 e5 => ?_)
  have h5 : lSh xs g5 := by rw [e5]; exact lSh_F0 h
  have t5 : zF g5 6 0 30 = 0 := by rw [e5, zF_zsF, if_pos ⟨rfl, rfl, rfl⟩]
  have r5 := lKp_c e5 (lKp_F r0)
  refine zw_aload_n dX6_step_5 rfl ?_
  refine zw_iload_n dX6_step_6 rfl ?_
  refine zw_callV (y' := zmX6_isState) dX6_step_7 zlX6_165 zmX6_isState_ok (lk_30 h5) (by decide) rfl (c1_X6_isState h5 _) rfl rfl (Nat.le_of_ble_eq_true rfl) ⟨Nat.le_of_ble_eq_true rfl, Nat.le_of_ble_eq_true rfl⟩ ⟨Nat.le_of_ble_eq_true rfl, Nat.le_of_ble_eq_true rfl⟩ ?_
  intro v7 s7 q7
  obtain ⟨rfl, rfl⟩ := q7
  refine zw_ifeq (tgt := 38) dX6_step_10 (by decide) (fun c10 => ?_) (fun c10 => absurd c10 (by decide))
  refine zw_aload_n dX6_step_38 rfl ?_
  refine zw_iconst (x := 1) dX6_step_39 rfl ?_
  refine zw_callV (y' := zmX6_fail) dX6_step_40 zlX6_88 zmX6_fail_ok (lk_30 h5) (by decide) rfl (c1_X6_fail (xs := xs) (lk_30 h5) _) rfl rfl (Nat.le_of_ble_eq_true rfl) ⟨Nat.le_of_ble_eq_true rfl, Nat.le_of_ble_eq_true rfl⟩ ⟨Nat.le_of_ble_eq_true rfl, Nat.le_of_ble_eq_true rfl⟩ ?_
  intro v40 s40 q40
  obtain ⟨rfl, rfl⟩ := q40
  refine zw_iret dX6_step_43 rfl rfl ?_
  exact ⟨⟨_, rfl⟩, (by rw [zF_zsF, if_pos ⟨rfl, rfl, rfl⟩]), (lKp_F r5)⟩
set_option maxHeartbeats 4000000 in
set_option maxRecDepth 100000 in
theorem c1_X6_addFact {l : Launch} {xs : Nat → Int32} {σ : zS} (h : lSh xs σ) (p q r : Int32) : zAM l zmX6_addFact 2 43 0 0 [.ref 30, .int p, .int q, .int r] σ (fun v σ' => (∃ b, v = some (.int b)) ∧ zF σ' 6 0 30 = 1 ∧ lKp σ σ') := by
  have r0 := lKp_rf σ
  refine zAM.of (by decide +kernel) (Nat.le_of_ble_eq_true rfl) ?_
  refine zw_aload_n dX6_addFact_0 rfl ?_
  refine zw_iconst (x := 0) dX6_addFact_1 rfl ?_
  refine zw_putI dX6_addFact_2 zfX6_65 rfl rfl ⟨rfl, rfl⟩ (lk_30 h) (by decide) ?_
  refine zw_gen (fun g6 e6 => ?_)
  have h6 : lSh xs g6 := by rw [e6]; exact lSh_F0 h
  have t6 : zF g6 6 0 30 = 0 := by rw [e6, zF_zsF, if_pos ⟨rfl, rfl, rfl⟩]
  have r6 := lKp_c e6 (lKp_F r0)
  refine zw_iload_n dX6_addFact_5 rfl ?_
  refine zw_iconst (x := 0) dX6_addFact_6 rfl ?_
  refine zw_iconst (x := 5) dX6_addFact_7 rfl ?_
  refine zw_callS (y' := zmX6_isIn) dX6_addFact_8 zlX6_72 zmX6_isIn_ok (c1_X6_isIn (xs := xs) _ _ _) rfl rfl (Nat.le_of_ble_eq_true rfl) ⟨Nat.le_of_ble_eq_true rfl, Nat.le_of_ble_eq_true rfl⟩ ⟨Nat.le_of_ble_eq_true rfl, Nat.le_of_ble_eq_true rfl⟩ ?_
  intro v8 s8 q8
  rcases q8 with ⟨⟨rfl, hb8⟩ | ⟨rfl, hb8⟩, rfl⟩
  · skip
    refine zw_ifeq (tgt := 53) dX6_addFact_11 (by decide) (fun c11 => absurd c11 (by decide)) (fun c11 => ?_)
    refine zw_iload_n dX6_addFact_14 rfl ?_
    refine zw_ifne (tgt := 29) dX6_addFact_15 (by decide) (fun c15 => ?_) (fun c15 => ?_)
    · refine zw_iload_n dX6_addFact_29 rfl ?_
      refine zw_iconst (x := 3) dX6_addFact_30 rfl ?_
      refine zw_icmpge (tgt := 45) dX6_addFact_31 (by decide) (fun c31 => ?_) (fun c31 => ?_)
      · refine zw_aload_n dX6_addFact_45 rfl ?_
        refine zw_iload_n dX6_addFact_46 rfl ?_
        refine zw_callV (y' := zmX6_isFact) dX6_addFact_47 zlX6_174 zmX6_isFact_ok (lk_30 h6) (by decide) rfl (c1_X6_isFact h6 _) rfl rfl (Nat.le_of_ble_eq_true rfl) ⟨Nat.le_of_ble_eq_true rfl, Nat.le_of_ble_eq_true rfl⟩ ⟨Nat.le_of_ble_eq_true rfl, Nat.le_of_ble_eq_true rfl⟩ ?_
        intro v47 s47 q47
        obtain ⟨rfl, rfl⟩ := q47
        refine zw_ifne (tgt := 59) dX6_addFact_50 (by decide) (fun c50 => absurd c50 (by decide)) (fun c50 => ?_)
        refine zw_aload_n dX6_addFact_53 rfl ?_
        refine zw_iconst (x := 1) dX6_addFact_54 rfl ?_
        refine zw_callV (y' := zmX6_fail) dX6_addFact_55 zlX6_88 zmX6_fail_ok (lk_30 h6) (by decide) rfl (c1_X6_fail (xs := xs) (lk_30 h6) _) rfl rfl (Nat.le_of_ble_eq_true rfl) ⟨Nat.le_of_ble_eq_true rfl, Nat.le_of_ble_eq_true rfl⟩ ⟨Nat.le_of_ble_eq_true rfl, Nat.le_of_ble_eq_true rfl⟩ ?_
        intro v55 s55 q55
        obtain ⟨rfl, rfl⟩ := q55
        refine zw_iret dX6_addFact_58 rfl rfl ?_
        exact ⟨⟨_, rfl⟩, (by rw [zF_zsF, if_pos ⟨rfl, rfl, rfl⟩]), (lKp_F r6)⟩
      · refine zw_aload_n dX6_addFact_34 rfl ?_
        refine zw_iload_n dX6_addFact_35 rfl ?_
        refine zw_callV (y' := zmX6_isVariable) dX6_addFact_36 zlX6_105 zmX6_isVariable_ok (lk_30 h6) (by decide) rfl (c1_X6_isVariable h6 _) rfl rfl (Nat.le_of_ble_eq_true rfl) ⟨Nat.le_of_ble_eq_true rfl, Nat.le_of_ble_eq_true rfl⟩ ⟨Nat.le_of_ble_eq_true rfl, Nat.le_of_ble_eq_true rfl⟩ ?_
        intro v36 s36 q36
        obtain ⟨rfl, rfl⟩ := q36
        refine zw_ifeq (tgt := 53) dX6_addFact_39 (by decide) (fun c39 => ?_) (fun c39 => absurd c39 (by decide))
        refine zw_aload_n dX6_addFact_53 rfl ?_
        refine zw_iconst (x := 1) dX6_addFact_54 rfl ?_
        refine zw_callV (y' := zmX6_fail) dX6_addFact_55 zlX6_88 zmX6_fail_ok (lk_30 h6) (by decide) rfl (c1_X6_fail (xs := xs) (lk_30 h6) _) rfl rfl (Nat.le_of_ble_eq_true rfl) ⟨Nat.le_of_ble_eq_true rfl, Nat.le_of_ble_eq_true rfl⟩ ⟨Nat.le_of_ble_eq_true rfl, Nat.le_of_ble_eq_true rfl⟩ ?_
        intro v55 s55 q55
        obtain ⟨rfl, rfl⟩ := q55
        refine zw_iret dX6_addFact_58 rfl rfl ?_
        exact ⟨⟨_, rfl⟩, (by rw [zF_zsF, if_pos ⟨rfl, rfl, rfl⟩]), (lKp_F r6)⟩
    · refine zw_aload_n dX6_addFact_18 rfl ?_
      refine zw_iload_n dX6_addFact_19 rfl ?_
      refine zw_callV (y' := zmX6_isProcess) dX6_addFact_20 zlX6_95 zmX6_isProcess_ok (lk_30 h6) (by decide) rfl (c1_X6_isProcess h6 _) rfl rfl (Nat.le_of_ble_eq_true rfl) ⟨Nat.le_of_ble_eq_true rfl, Nat.le_of_ble_eq_true rfl⟩ ⟨Nat.le_of_ble_eq_true rfl, Nat.le_of_ble_eq_true rfl⟩ ?_
      intro v20 s20 q20
      obtain ⟨rfl, rfl⟩ := q20
      refine zw_ifeq (tgt := 53) dX6_addFact_23 (by decide) (fun c23 => ?_) (fun c23 => absurd c23 (by decide))
      refine zw_aload_n dX6_addFact_53 rfl ?_
      refine zw_iconst (x := 1) dX6_addFact_54 rfl ?_
      refine zw_callV (y' := zmX6_fail) dX6_addFact_55 zlX6_88 zmX6_fail_ok (lk_30 h6) (by decide) rfl (c1_X6_fail (xs := xs) (lk_30 h6) _) rfl rfl (Nat.le_of_ble_eq_true rfl) ⟨Nat.le_of_ble_eq_true rfl, Nat.le_of_ble_eq_true rfl⟩ ⟨Nat.le_of_ble_eq_true rfl, Nat.le_of_ble_eq_true rfl⟩ ?_
      intro v55 s55 q55
      obtain ⟨rfl, rfl⟩ := q55
      refine zw_iret dX6_addFact_58 rfl rfl ?_
      exact ⟨⟨_, rfl⟩, (by rw [zF_zsF, if_pos ⟨rfl, rfl, rfl⟩]), (lKp_F r6)⟩
  · skip
    refine zw_ifeq (tgt := 53) dX6_addFact_11 (by decide) (fun c11 => ?_) (fun c11 => absurd c11 (by decide))
    refine zw_aload_n dX6_addFact_53 rfl ?_
    refine zw_iconst (x := 1) dX6_addFact_54 rfl ?_
    refine zw_callV (y' := zmX6_fail) dX6_addFact_55 zlX6_88 zmX6_fail_ok (lk_30 h6) (by decide) rfl (c1_X6_fail (xs := xs) (lk_30 h6) _) rfl rfl (Nat.le_of_ble_eq_true rfl) ⟨Nat.le_of_ble_eq_true rfl, Nat.le_of_ble_eq_true rfl⟩ ⟨Nat.le_of_ble_eq_true rfl, Nat.le_of_ble_eq_true rfl⟩ ?_
    intro v55 s55 q55
    obtain ⟨rfl, rfl⟩ := q55
    refine zw_iret dX6_addFact_58 rfl rfl ?_
    exact ⟨⟨_, rfl⟩, (by rw [zF_zsF, if_pos ⟨rfl, rfl, rfl⟩]), (lKp_F r6)⟩
set_option maxHeartbeats 4000000 in
set_option maxRecDepth 100000 in
theorem c1_X6_holds {l : Launch} {xs : Nat → Int32} {σ : zS} (h : lSh xs σ) (p q : Int32) : zAM l zmX6_holds 2 43 0 0 [.ref 30, .int p, .int q] σ (fun v σ' => (∃ b, v = some (.int b)) ∧ zF σ' 6 0 30 = 1 ∧ lKp σ σ') := by
  have r0 := lKp_rf σ
  refine zAM.of (by decide +kernel) (Nat.le_of_ble_eq_true rfl) ?_
  refine zw_aload_n dX6_holds_0 rfl ?_
  refine zw_aload_n dX6_holds_1 rfl ?_
  refine zw_iload_n dX6_holds_2 rfl ?_
  refine zw_callV (y' := zmX6_isFact) dX6_holds_3 zlX6_174 zmX6_isFact_ok (lk_30 h) (by decide) rfl (c1_X6_isFact h _) rfl rfl (Nat.le_of_ble_eq_true rfl) ⟨Nat.le_of_ble_eq_true rfl, Nat.le_of_ble_eq_true rfl⟩ ⟨Nat.le_of_ble_eq_true rfl, Nat.le_of_ble_eq_true rfl⟩ ?_
  intro v3 s3 q3
  obtain ⟨rfl, rfl⟩ := q3
  refine zw_ifeq (tgt := 21) dX6_holds_6 (by decide) (fun c6 => ?_) (fun c6 => absurd c6 (by decide))
  refine zw_iconst (x := 1) dX6_holds_21 rfl ?_
  refine zw_putI dX6_holds_22 zfX6_65 rfl rfl ⟨rfl, rfl⟩ (lk_30 h) (by decide) ?_
  refine zw_gen (fun g7 e7 => ?_)
  have h7 : lSh xs g7 := by rw [e7]; exact lSh_F0 h
  have t7 : zF g7 6 0 30 = 1 := by rw [e7, zF_zsF, if_pos ⟨rfl, rfl, rfl⟩]
  have r7 := lKp_c e7 (lKp_F r0)
  refine zw_aload_n dX6_holds_25 rfl ?_
  refine zw_getIv (x := 1) dX6_holds_26 zfX6_65 rfl (lk_30 h7) (by decide) t7 ?_
  refine zw_ifne (tgt := 45) dX6_holds_29 (by decide) (fun c29 => ?_) (fun c29 => absurd c29 (by decide))
  refine zw_iconst (x := 0) dX6_holds_45 rfl ?_
  refine zw_iret dX6_holds_46 rfl rfl ?_
  exact ⟨⟨_, rfl⟩, t7, r7⟩
set_option maxHeartbeats 4000000 in
set_option maxRecDepth 100000 in
theorem c1_X6_where {l : Launch} {xs : Nat → Int32} {σ : zS} (h : lSh xs σ) (p q : Int32) : zAM l zmX6_where 2 43 0 0 [.ref 30, .int p, .int q] σ (fun v σ' => (∃ b, v = some (.int b)) ∧ zF σ' 6 0 30 = 1 ∧ lKp σ σ') := by
  have r0 := lKp_rf σ
  refine zAM.of (by decide +kernel) (Nat.le_of_ble_eq_true rfl) ?_
  refine zw_aload_n dX6_where_0 rfl ?_
  refine zw_aload_n dX6_where_1 rfl ?_
  refine zw_iload_n dX6_where_2 rfl ?_
  refine zw_callV (y' := zmX6_isFact) dX6_where_3 zlX6_174 zmX6_isFact_ok (lk_30 h) (by decide) rfl (c1_X6_isFact h _) rfl rfl (Nat.le_of_ble_eq_true rfl) ⟨Nat.le_of_ble_eq_true rfl, Nat.le_of_ble_eq_true rfl⟩ ⟨Nat.le_of_ble_eq_true rfl, Nat.le_of_ble_eq_true rfl⟩ ?_
  intro v3 s3 q3
  obtain ⟨rfl, rfl⟩ := q3
  refine zw_ifne (tgt := 13) dX6_where_6 (by decide) (fun c6 => absurd c6 (by decide)) (fun c6 => ?_)
  refine zw_iconst (x := 1) dX6_where_9 rfl ?_
  refine zw_goto (tgt := 25) dX6_where_10 (by decide) ?_
  refine zw_putI dX6_where_25 zfX6_65 rfl rfl ⟨rfl, rfl⟩ (lk_30 h) (by decide) ?_
  refine zw_gen (fun g8 e8 => ?_)
  have h8 : lSh xs g8 := by rw [e8]; exact lSh_F0 h
  have t8 : zF g8 6 0 30 = 1 := by rw [e8, zF_zsF, if_pos ⟨rfl, rfl, rfl⟩]
  have r8 := lKp_c e8 (lKp_F r0)
  refine zw_aload_n dX6_where_28 rfl ?_
  refine zw_getIv (x := 1) dX6_where_29 zfX6_65 rfl (lk_30 h8) (by decide) t8 ?_
  refine zw_ifeq (tgt := 37) dX6_where_32 (by decide) (fun c32 => absurd c32 (by decide)) (fun c32 => ?_)
  refine zw_iconst (x := 0) dX6_where_35 rfl ?_
  refine zw_iret dX6_where_36 rfl rfl ?_
  exact ⟨⟨_, rfl⟩, t8, r8⟩
set_option maxHeartbeats 4000000 in
set_option maxRecDepth 100000 in
theorem c1_X6_stuck {l : Launch} {xs : Nat → Int32} {σ : zS} (h : lSh xs σ)  : zAM l zmX6_stuck 1 21 0 0 [.ref 30] σ (fun v σ' => (∃ b, v = some (.int b)) ∧ zF σ' 6 0 30 = 1 ∧ lKp σ σ') := by
  have r0 := lKp_rf σ
  refine zAM.of (by decide +kernel) (Nat.le_of_ble_eq_true rfl) ?_
  refine zw_aload_n dX6_stuck_0 rfl ?_
  refine zw_iconst (x := 0) dX6_stuck_1 rfl ?_
  refine zw_putI dX6_stuck_2 zfX6_65 rfl rfl ⟨rfl, rfl⟩ (lk_30 h) (by decide) ?_
  refine zw_gen (fun g9 e9 => ?_)
  have h9 : lSh xs g9 := by rw [e9]; exact lSh_F0 h
  have t9 : zF g9 6 0 30 = 0 := by rw [e9, zF_zsF, if_pos ⟨rfl, rfl, rfl⟩]
  have r9 := lKp_c e9 (lKp_F r0)
  refine zw_aload_n dX6_stuck_5 rfl ?_
  refine zw_getIv (x := 0) dX6_stuck_6 zfX6_82 rfl (lk_30 h9) (by decide) (lf_10 h9) ?_
  refine zw_ifne (tgt := 18) dX6_stuck_9 (by decide) (fun c9 => absurd c9 (by decide)) (fun c9 => ?_)
  refine zw_aload_n dX6_stuck_12 rfl ?_
  refine zw_iconst (x := 1) dX6_stuck_13 rfl ?_
  refine zw_callV (y' := zmX6_fail) dX6_stuck_14 zlX6_88 zmX6_fail_ok (lk_30 h9) (by decide) rfl (c1_X6_fail (xs := xs) (lk_30 h9) _) rfl rfl (Nat.le_of_ble_eq_true rfl) ⟨Nat.le_of_ble_eq_true rfl, Nat.le_of_ble_eq_true rfl⟩ ⟨Nat.le_of_ble_eq_true rfl, Nat.le_of_ble_eq_true rfl⟩ ?_
  intro v14 s14 q14
  obtain ⟨rfl, rfl⟩ := q14
  refine zw_iret dX6_stuck_17 rfl rfl ?_
  exact ⟨⟨_, rfl⟩, (by rw [zF_zsF, if_pos ⟨rfl, rfl, rfl⟩]), (lKp_F r9)⟩
set_option maxHeartbeats 4000000 in
set_option maxRecDepth 100000 in
theorem c1_X6_leads {l : Launch} {xs : Nat → Int32} {σ : zS} (h : lSh xs σ) (p q : Int32) : zAM l zmX6_leads 2 43 0 0 [.ref 30, .int p, .int q] σ (fun v σ' => (∃ b, v = some (.int b)) ∧ zF σ' 6 0 30 = 1 ∧ lKp σ σ') := by
  have r0 := lKp_rf σ
  refine zAM.of (by decide +kernel) (Nat.le_of_ble_eq_true rfl) ?_
  refine zw_aload_n dX6_leads_0 rfl ?_
  refine zw_aload_n dX6_leads_1 rfl ?_
  refine zw_iload_n dX6_leads_2 rfl ?_
  refine zw_callV (y' := zmX6_isFact) dX6_leads_3 zlX6_174 zmX6_isFact_ok (lk_30 h) (by decide) rfl (c1_X6_isFact h _) rfl rfl (Nat.le_of_ble_eq_true rfl) ⟨Nat.le_of_ble_eq_true rfl, Nat.le_of_ble_eq_true rfl⟩ ⟨Nat.le_of_ble_eq_true rfl, Nat.le_of_ble_eq_true rfl⟩ ?_
  intro v3 s3 q3
  obtain ⟨rfl, rfl⟩ := q3
  refine zw_ifeq (tgt := 17) dX6_leads_6 (by decide) (fun c6 => ?_) (fun c6 => absurd c6 (by decide))
  refine zw_iconst (x := 1) dX6_leads_17 rfl ?_
  refine zw_goto (tgt := 33) dX6_leads_18 (by decide) ?_
  refine zw_putI dX6_leads_33 zfX6_65 rfl rfl ⟨rfl, rfl⟩ (lk_30 h) (by decide) ?_
  refine zw_gen (fun g10 e10 => ?_)
  have h10 : lSh xs g10 := by rw [e10]; exact lSh_F0 h
  have t10 : zF g10 6 0 30 = 1 := by rw [e10, zF_zsF, if_pos ⟨rfl, rfl, rfl⟩]
  have r10 := lKp_c e10 (lKp_F r0)
  refine zw_aload_n dX6_leads_36 rfl ?_
  refine zw_getIv (x := 1) dX6_leads_37 zfX6_65 rfl (lk_30 h10) (by decide) t10 ?_
  refine zw_ifeq (tgt := 45) dX6_leads_40 (by decide) (fun c40 => absurd c40 (by decide)) (fun c40 => ?_)
  refine zw_iconst (x := 0) dX6_leads_43 rfl ?_
  refine zw_iret dX6_leads_44 rfl rfl ?_
  exact ⟨⟨_, rfl⟩, t10, r10⟩
set_option maxHeartbeats 4000000 in
set_option maxRecDepth 100000 in
theorem c1_X6_isBad {l : Launch} {xs : Nat → Int32} {σ : zS} (h : lSh xs σ) (p q : Int32) : zAM l zmX6_isBad 2 43 0 0 [.ref 30, .int p, .int q] σ (fun v σ' => (∃ b, v = some (.int b)) ∧ zF σ' 6 0 30 = 1 ∧ lKp σ σ') := by
  have r0 := lKp_rf σ
  refine zAM.of (by decide +kernel) (Nat.le_of_ble_eq_true rfl) ?_
  refine zw_aload_n dX6_isBad_0 rfl ?_
  refine zw_aload_n dX6_isBad_1 rfl ?_
  refine zw_iload_n dX6_isBad_2 rfl ?_
  refine zw_callV (y' := zmX6_isFact) dX6_isBad_3 zlX6_174 zmX6_isFact_ok (lk_30 h) (by decide) rfl (c1_X6_isFact h _) rfl rfl (Nat.le_of_ble_eq_true rfl) ⟨Nat.le_of_ble_eq_true rfl, Nat.le_of_ble_eq_true rfl⟩ ⟨Nat.le_of_ble_eq_true rfl, Nat.le_of_ble_eq_true rfl⟩ ?_
  intro v3 s3 q3
  obtain ⟨rfl, rfl⟩ := q3
  refine zw_ifeq (tgt := 21) dX6_isBad_6 (by decide) (fun c6 => ?_) (fun c6 => absurd c6 (by decide))
  refine zw_iconst (x := 1) dX6_isBad_21 rfl ?_
  refine zw_putI dX6_isBad_22 zfX6_65 rfl rfl ⟨rfl, rfl⟩ (lk_30 h) (by decide) ?_
  refine zw_gen (fun g11 e11 => ?_)
  have h11 : lSh xs g11 := by rw [e11]; exact lSh_F0 h
  have t11 : zF g11 6 0 30 = 1 := by rw [e11, zF_zsF, if_pos ⟨rfl, rfl, rfl⟩]
  have r11 := lKp_c e11 (lKp_F r0)
  refine zw_aload_n dX6_isBad_25 rfl ?_
  refine zw_getIv (x := 1) dX6_isBad_26 zfX6_65 rfl (lk_30 h11) (by decide) t11 ?_
  refine zw_ifeq (tgt := 34) dX6_isBad_29 (by decide) (fun c29 => absurd c29 (by decide)) (fun c29 => ?_)
  refine zw_iconst (x := 0) dX6_isBad_32 rfl ?_
  refine zw_iret dX6_isBad_33 rfl rfl ?_
  exact ⟨⟨_, rfl⟩, t11, r11⟩
set_option maxHeartbeats 4000000 in
set_option maxRecDepth 100000 in
theorem c1_X6_trapped {l : Launch} {xs : Nat → Int32} {σ : zS} (h : lSh xs σ) (p : Int32) : zAM l zmX6_trapped 2 43 0 0 [.ref 30, .int p] σ (fun v σ' => (∃ b, v = some (.int b)) ∧ zF σ' 6 0 30 = 1 ∧ lKp σ σ') := by
  have r0 := lKp_rf σ
  refine zAM.of (by decide +kernel) (Nat.le_of_ble_eq_true rfl) ?_
  refine zw_aload_n dX6_trapped_0 rfl ?_
  refine zw_aload_n dX6_trapped_1 rfl ?_
  refine zw_iload_n dX6_trapped_2 rfl ?_
  refine zw_callV (y' := zmX6_isFact) dX6_trapped_3 zlX6_174 zmX6_isFact_ok (lk_30 h) (by decide) rfl (c1_X6_isFact h _) rfl rfl (Nat.le_of_ble_eq_true rfl) ⟨Nat.le_of_ble_eq_true rfl, Nat.le_of_ble_eq_true rfl⟩ ⟨Nat.le_of_ble_eq_true rfl, Nat.le_of_ble_eq_true rfl⟩ ?_
  intro v3 s3 q3
  obtain ⟨rfl, rfl⟩ := q3
  refine zw_ifne (tgt := 13) dX6_trapped_6 (by decide) (fun c6 => absurd c6 (by decide)) (fun c6 => ?_)
  refine zw_iconst (x := 1) dX6_trapped_9 rfl ?_
  refine zw_goto (tgt := 25) dX6_trapped_10 (by decide) ?_
  refine zw_putI dX6_trapped_25 zfX6_65 rfl rfl ⟨rfl, rfl⟩ (lk_30 h) (by decide) ?_
  refine zw_gen (fun g12 e12 => ?_)
  have h12 : lSh xs g12 := by rw [e12]; exact lSh_F0 h
  have t12 : zF g12 6 0 30 = 1 := by rw [e12, zF_zsF, if_pos ⟨rfl, rfl, rfl⟩]
  have r12 := lKp_c e12 (lKp_F r0)
  refine zw_aload_n dX6_trapped_28 rfl ?_
  refine zw_getIv (x := 1) dX6_trapped_29 zfX6_65 rfl (lk_30 h12) (by decide) t12 ?_
  refine zw_ifne (tgt := 43) dX6_trapped_32 (by decide) (fun c32 => ?_) (fun c32 => absurd c32 (by decide))
  refine zw_iconst (x := 0) dX6_trapped_43 rfl ?_
  refine zw_iret dX6_trapped_44 rfl rfl ?_
  exact ⟨⟨_, rfl⟩, t12, r12⟩
set_option maxHeartbeats 4000000 in
set_option maxRecDepth 100000 in
theorem c1_X6_way {l : Launch} {xs : Nat → Int32} {σ : zS} (h : lSh xs σ) (p q r : Int32) : zAM l zmX6_way 2 43 0 0 [.ref 30, .int p, .int q, .int r] σ (fun v σ' => (∃ b, v = some (.int b)) ∧ zF σ' 6 0 30 = 1 ∧ lKp σ σ') := by
  have r0 := lKp_rf σ
  refine zAM.of (by decide +kernel) (Nat.le_of_ble_eq_true rfl) ?_
  refine zw_aload_n dX6_way_0 rfl ?_
  refine zw_iconst (x := 0) dX6_way_1 rfl ?_
  refine zw_putI dX6_way_2 zfX6_65 rfl rfl ⟨rfl, rfl⟩ (lk_30 h) (by decide) ?_
  refine zw_gen (fun g13 e13 => ?_)
  have h13 : lSh xs g13 := by rw [e13]; exact lSh_F0 h
  have t13 : zF g13 6 0 30 = 0 := by rw [e13, zF_zsF, if_pos ⟨rfl, rfl, rfl⟩]
  have r13 := lKp_c e13 (lKp_F r0)
  refine zw_aload_n dX6_way_5 rfl ?_
  refine zw_iload_n dX6_way_6 rfl ?_
  refine zw_callV (y' := zmX6_isState) dX6_way_7 zlX6_165 zmX6_isState_ok (lk_30 h13) (by decide) rfl (c1_X6_isState h13 _) rfl rfl (Nat.le_of_ble_eq_true rfl) ⟨Nat.le_of_ble_eq_true rfl, Nat.le_of_ble_eq_true rfl⟩ ⟨Nat.le_of_ble_eq_true rfl, Nat.le_of_ble_eq_true rfl⟩ ?_
  intro v7 s7 q7
  obtain ⟨rfl, rfl⟩ := q7
  refine zw_ifeq (tgt := 33) dX6_way_10 (by decide) (fun c10 => ?_) (fun c10 => absurd c10 (by decide))
  refine zw_aload_n dX6_way_33 rfl ?_
  refine zw_iconst (x := 1) dX6_way_34 rfl ?_
  refine zw_callV (y' := zmX6_fail) dX6_way_35 zlX6_88 zmX6_fail_ok (lk_30 h13) (by decide) rfl (c1_X6_fail (xs := xs) (lk_30 h13) _) rfl rfl (Nat.le_of_ble_eq_true rfl) ⟨Nat.le_of_ble_eq_true rfl, Nat.le_of_ble_eq_true rfl⟩ ⟨Nat.le_of_ble_eq_true rfl, Nat.le_of_ble_eq_true rfl⟩ ?_
  intro v35 s35 q35
  obtain ⟨rfl, rfl⟩ := q35
  refine zw_iret dX6_way_38 rfl rfl ?_
  exact ⟨⟨_, rfl⟩, (by rw [zF_zsF, if_pos ⟨rfl, rfl, rfl⟩]), (lKp_F r13)⟩
set_option maxHeartbeats 4000000 in
set_option maxRecDepth 100000 in
theorem c1_X6_counted {l : Launch} {xs : Nat → Int32} {σ : zS} (h : lSh xs σ) (t : Int32) : zAM l zmX6_counted 0 0 0 0 [.ref 30, .int t] σ (fun v σ' => v = some (.int 0) ∧ σ' = σ) := by
  have r0 := lKp_rf σ
  refine zAM.of (by decide +kernel) (Nat.le_of_ble_eq_true rfl) ?_
  refine zw_iconst (x := 0) dX6_counted_0 rfl ?_
  refine zw_istore_n dX6_counted_1 (by decide) rfl ?_
  refine zw_iload_n dX6_counted_2 rfl ?_
  rcases zsplit5 t with rfl | rfl | rfl | rfl | rfl | hw
  · refine zw_tableIn (off := 33) (tgt := 36) dX6_counted_3 (by decide) (by decide) (by decide) (by decide) ?_
    refine zw_aload_n dX6_counted_36 rfl ?_
    refine zw_getIv (x := 0) dX6_counted_37 zfX6_69 rfl (lk_30 h) (by decide) (lf_1 h) ?_
    refine zw_iret dX6_counted_40 rfl rfl ?_
    exact ⟨rfl, rfl⟩
  · refine zw_tableIn (off := 38) (tgt := 41) dX6_counted_3 (by decide) (by decide) (by decide) (by decide) ?_
    refine zw_aload_n dX6_counted_41 rfl ?_
    refine zw_getIv (x := 0) dX6_counted_42 zfX6_76 rfl (lk_30 h) (by decide) (lf_3 h) ?_
    refine zw_iret dX6_counted_45 rfl rfl ?_
    exact ⟨rfl, rfl⟩
  · refine zw_tableIn (off := 43) (tgt := 46) dX6_counted_3 (by decide) (by decide) (by decide) (by decide) ?_
    refine zw_iconst (x := 0) dX6_counted_46 rfl ?_
    refine zw_istore_n dX6_counted_47 (by decide) rfl ?_
    refine zw_iload_n dX6_counted_48 rfl ?_
    refine zw_aload_n dX6_counted_49 rfl ?_
    refine zw_getIv (x := 0) dX6_counted_50 zfX6_69 rfl (lk_30 h) (by decide) (lf_1 h) ?_
    refine zw_icmpge (tgt := 71) dX6_counted_53 (by decide) (fun c53 => ?_) (fun c53 => absurd c53 (by decide))
    refine zw_iload_n dX6_counted_71 rfl ?_
    refine zw_iret dX6_counted_72 rfl rfl ?_
    exact ⟨rfl, rfl⟩
  · refine zw_tableIn (off := 70) (tgt := 73) dX6_counted_3 (by decide) (by decide) (by decide) (by decide) ?_
    refine zw_aload_n dX6_counted_73 rfl ?_
    refine zw_getIv (x := 0) dX6_counted_74 zfX6_79 rfl (lk_30 h) (by decide) (lf_8 h) ?_
    refine zw_iret dX6_counted_77 rfl rfl ?_
    exact ⟨rfl, rfl⟩
  · refine zw_tableIn (off := 75) (tgt := 78) dX6_counted_3 (by decide) (by decide) (by decide) (by decide) ?_
    refine zw_aload_n dX6_counted_78 rfl ?_
    refine zw_getIv (x := 0) dX6_counted_79 zfX6_82 rfl (lk_30 h) (by decide) (lf_10 h) ?_
    refine zw_iret dX6_counted_82 rfl rfl ?_
    exact ⟨rfl, rfl⟩
  · refine zw_tableOut (tgt := 83) dX6_counted_3 hw (by decide) ?_
    refine zw_aload_n dX6_counted_83 rfl ?_
    refine zw_getIv (x := 0) dX6_counted_84 zfX6_85 rfl (lk_30 h) (by decide) (lf_11 h) ?_
    refine zw_iret dX6_counted_87 rfl rfl ?_
    exact ⟨rfl, rfl⟩
set_option maxHeartbeats 4000000 in
set_option maxRecDepth 100000 in
theorem c1_X6_addProcess {l : Launch} {xs : Nat → Int32} {σ : zS} (h : lSh xs σ) (p : Int32) : zAM l zmX6_addProcess 1 22 0 0 [.ref 30, .int p] σ (fun v σ' => ((∃ b, v = some (.int b)) ∧ zF σ' 6 0 30 = 1 ∧ lKp σ σ' ∧ ¬ (1 ≤ p ∧ p ≤ 8)) ∨ (v = some (.int 0) ∧ zF σ' 6 0 30 = 0 ∧ lKp σ σ' ∧ 1 ≤ p ∧ p ≤ 8)) := by
  have r0 := lKp_rf σ
  refine zAM.of (by decide +kernel) (Nat.le_of_ble_eq_true rfl) ?_
  refine zw_aload_n dX6_addProcess_0 rfl ?_
  refine zw_iconst (x := 0) dX6_addProcess_1 rfl ?_
  refine zw_putI dX6_addProcess_2 zfX6_65 rfl rfl ⟨rfl, rfl⟩ (lk_30 h) (by decide) ?_
  refine zw_gen (fun g14 e14 => ?_)
  have h14 : lSh xs g14 := by rw [e14]; exact lSh_F0 h
  have t14 : zF g14 6 0 30 = 0 := by rw [e14, zF_zsF, if_pos ⟨rfl, rfl, rfl⟩]
  have r14 := lKp_c e14 (lKp_F r0)
  refine zw_iload_n dX6_addProcess_5 rfl ?_
  refine zw_iconst (x := 1) dX6_addProcess_6 rfl ?_
  refine zw_bipush (x := 8) dX6_addProcess_7 rfl ?_
  refine zw_callS (y' := zmX6_isIn) dX6_addProcess_9 zlX6_72 zmX6_isIn_ok (c1_X6_isIn (xs := xs) _ _ _) rfl rfl (Nat.le_of_ble_eq_true rfl) ⟨Nat.le_of_ble_eq_true rfl, Nat.le_of_ble_eq_true rfl⟩ ⟨Nat.le_of_ble_eq_true rfl, Nat.le_of_ble_eq_true rfl⟩ ?_
  intro v9 s9 q9
  rcases q9 with ⟨⟨rfl, hb9⟩ | ⟨rfl, hb9⟩, rfl⟩
  · skip
    refine zw_ifne (tgt := 21) dX6_addProcess_12 (by decide) (fun c12 => ?_) (fun c12 => absurd c12 (by decide))
    refine zw_aload_n dX6_addProcess_21 rfl ?_
    refine zw_getIv (x := 0) dX6_addProcess_22 zfX6_69 rfl (lk_30 h14) (by decide) (lf_1 h14) ?_
    refine zw_iconst (x := 5) dX6_addProcess_25 rfl ?_
    refine zw_icmpne (tgt := 35) dX6_addProcess_26 (by decide) (fun c26 => ?_) (fun c26 => absurd c26 (by decide))
    refine zw_aload_n dX6_addProcess_35 rfl ?_
    refine zw_getR dX6_addProcess_36 zfX6_9 rfl (lk_30 h14) (by decide) (lg_2 h14) ?_
    refine zw_aload_n dX6_addProcess_39 rfl ?_
    refine zw_getIv (x := 0) dX6_addProcess_40 zfX6_69 rfl (lk_30 h14) (by decide) (lf_1 h14) ?_
    refine zw_iload_n dX6_addProcess_43 rfl ?_
    refine zw_iastore dX6_addProcess_44 (lk_31 h14) (by decide) (zin_of (ll_31 h14) (by unfold vp_in; decide)) ?_
    refine zw_gen (fun g15 e15 => ?_)
    have h15 : lSh xs g15 := by rw [e15]; exact lSh_I (by decide) h14
    have t15 : zF g15 6 0 30 = 0 := by rw [e15, zF_zsI]; exact t14
    have r15 := lKp_c e15 (lKp_I r14)
    refine zw_aload_n dX6_addProcess_45 rfl ?_
    refine zw_dup dX6_addProcess_46 rfl ?_
    refine zw_getIv (x := 0) dX6_addProcess_47 zfX6_69 rfl (lk_30 h15) (by decide) (lf_1 h15) ?_
    refine zw_iconst (x := 1) dX6_addProcess_50 rfl ?_
    refine zw_iadd dX6_addProcess_51 ?_
    refine zw_putI dX6_addProcess_52 zfX6_69 rfl rfl ⟨rfl, rfl⟩ (lk_30 h15) (by decide) ?_
    refine zw_gen (fun g16 e16 => ?_)
    have k16 : zK g16 30 = 6 := by rw [e16]; exact (have kq := (lk_30 h15); kq)
    have t16 : zF g16 6 0 30 = 0 := by rw [e16, zF_zsF, if_neg (by decide)]; exact t15
    have p16 : zF g16 6 1 30 = 1 := by rw [e16, zF_zsF, if_pos ⟨rfl, rfl, rfl⟩]; rfl
    have r16 := lKp_c e16 (lKp_F r15)
    refine zw_aload_n dX6_addProcess_55 rfl ?_
    refine zw_callV (y' := zmX6_forget) dX6_addProcess_56 zlX6_92 zmX6_forget_ok k16 (by decide) rfl (c1_X6_forget (xs := xs) k16) rfl rfl (Nat.le_of_ble_eq_true rfl) ⟨Nat.le_of_ble_eq_true rfl, Nat.le_of_ble_eq_true rfl⟩ ⟨Nat.le_of_ble_eq_true rfl, Nat.le_of_ble_eq_true rfl⟩ ?_
    intro v56 s56 q56
    obtain ⟨rfl, rfl⟩ := q56
    refine zw_gen (fun g17 e17 => ?_)
    have k17 : zK g17 30 = 6 := by rw [e17]; exact k16
    have t17 : zF g17 6 0 30 = 0 := by rw [e17, zF_zsF, if_neg (by decide), zF_zsF, if_neg (by decide)]; exact t16
    have p17 : zF g17 6 1 30 = 1 := by rw [e17, zF_zsF, if_neg (by decide), zF_zsF, if_neg (by decide)]; exact p16
    have r17 := lKp_c e17 (lKp_F (lKp_F r16))
    refine zw_aload_n dX6_addProcess_59 rfl ?_
    refine zw_getIv (x := 1) dX6_addProcess_60 zfX6_69 rfl k17 (by decide) p17 ?_
    refine zw_iconst (x := 1) dX6_addProcess_63 rfl ?_
    refine zw_isub dX6_addProcess_64 ?_
    refine zw_iret dX6_addProcess_65 rfl rfl ?_
    exact Or.inr ⟨rfl, t17, r17, hb9⟩
  · skip
    refine zw_ifne (tgt := 21) dX6_addProcess_12 (by decide) (fun c12 => absurd c12 (by decide)) (fun c12 => ?_)
    refine zw_aload_n dX6_addProcess_15 rfl ?_
    refine zw_iconst (x := 1) dX6_addProcess_16 rfl ?_
    refine zw_callV (y' := zmX6_fail) dX6_addProcess_17 zlX6_88 zmX6_fail_ok (lk_30 h14) (by decide) rfl (c1_X6_fail (xs := xs) (lk_30 h14) _) rfl rfl (Nat.le_of_ble_eq_true rfl) ⟨Nat.le_of_ble_eq_true rfl, Nat.le_of_ble_eq_true rfl⟩ ⟨Nat.le_of_ble_eq_true rfl, Nat.le_of_ble_eq_true rfl⟩ ?_
    intro v17 s17 q17
    obtain ⟨rfl, rfl⟩ := q17
    refine zw_iret dX6_addProcess_20 rfl rfl ?_
    exact Or.inl ⟨⟨_, rfl⟩, (by rw [zF_zsF, if_pos ⟨rfl, rfl, rfl⟩]), (lKp_F r14), hb9⟩
set_option maxHeartbeats 4000000 in
set_option maxRecDepth 100000 in
theorem c1_X6_addVariable {l : Launch} {xs : Nat → Int32} {σ : zS} (h : lSh xs σ) (p q : Int32) : zAM l zmX6_addVariable 1 22 0 0 [.ref 30, .int p, .int q] σ (fun v σ' => ((∃ b, v = some (.int b)) ∧ zF σ' 6 0 30 = 1 ∧ lKp σ σ' ∧ ¬ ((1 ≤ p ∧ p ≤ 9) ∧ 0 ≤ q ∧ q ≤ p)) ∨ (v = some (.int 0) ∧ zF σ' 6 0 30 = 0 ∧ lKp σ σ' ∧ (1 ≤ p ∧ p ≤ 9) ∧ 0 ≤ q ∧ q ≤ p)) := by
  have r0 := lKp_rf σ
  refine zAM.of (by decide +kernel) (Nat.le_of_ble_eq_true rfl) ?_
  refine zw_aload_n dX6_addVariable_0 rfl ?_
  refine zw_iconst (x := 0) dX6_addVariable_1 rfl ?_
  refine zw_putI dX6_addVariable_2 zfX6_65 rfl rfl ⟨rfl, rfl⟩ (lk_30 h) (by decide) ?_
  refine zw_gen (fun g18 e18 => ?_)
  have h18 : lSh xs g18 := by rw [e18]; exact lSh_F0 h
  have t18 : zF g18 6 0 30 = 0 := by rw [e18, zF_zsF, if_pos ⟨rfl, rfl, rfl⟩]
  have r18 := lKp_c e18 (lKp_F r0)
  refine zw_iload_n dX6_addVariable_5 rfl ?_
  refine zw_iconst (x := 1) dX6_addVariable_6 rfl ?_
  refine zw_bipush (x := 9) dX6_addVariable_7 rfl ?_
  refine zw_callS (y' := zmX6_isIn) dX6_addVariable_9 zlX6_72 zmX6_isIn_ok (c1_X6_isIn (xs := xs) _ _ _) rfl rfl (Nat.le_of_ble_eq_true rfl) ⟨Nat.le_of_ble_eq_true rfl, Nat.le_of_ble_eq_true rfl⟩ ⟨Nat.le_of_ble_eq_true rfl, Nat.le_of_ble_eq_true rfl⟩ ?_
  intro v9 s9 q9
  rcases q9 with ⟨⟨rfl, hb9⟩ | ⟨rfl, hb9⟩, rfl⟩
  · skip
    refine zw_ifeq (tgt := 24) dX6_addVariable_12 (by decide) (fun c12 => absurd c12 (by decide)) (fun c12 => ?_)
    refine zw_iload_n dX6_addVariable_15 rfl ?_
    refine zw_iconst (x := 0) dX6_addVariable_16 rfl ?_
    refine zw_iload_n dX6_addVariable_17 rfl ?_
    refine zw_callS (y' := zmX6_isIn) dX6_addVariable_18 zlX6_72 zmX6_isIn_ok (c1_X6_isIn (xs := xs) _ _ _) rfl rfl (Nat.le_of_ble_eq_true rfl) ⟨Nat.le_of_ble_eq_true rfl, Nat.le_of_ble_eq_true rfl⟩ ⟨Nat.le_of_ble_eq_true rfl, Nat.le_of_ble_eq_true rfl⟩ ?_
    intro v18 s18 q18
    rcases q18 with ⟨⟨rfl, hb18⟩ | ⟨rfl, hb18⟩, rfl⟩
    · skip
      refine zw_ifne (tgt := 30) dX6_addVariable_21 (by decide) (fun c21 => ?_) (fun c21 => absurd c21 (by decide))
      refine zw_aload_n dX6_addVariable_30 rfl ?_
      refine zw_getIv (x := 0) dX6_addVariable_31 zfX6_76 rfl (lk_30 h18) (by decide) (lf_3 h18) ?_
      refine zw_iconst (x := 4) dX6_addVariable_34 rfl ?_
      refine zw_icmpne (tgt := 44) dX6_addVariable_35 (by decide) (fun c35 => ?_) (fun c35 => absurd c35 (by decide))
      refine zw_aload_n dX6_addVariable_44 rfl ?_
      refine zw_getR dX6_addVariable_45 zfX6_13 rfl (lk_30 h18) (by decide) (lg_4 h18) ?_
      refine zw_aload_n dX6_addVariable_48 rfl ?_
      refine zw_getIv (x := 0) dX6_addVariable_49 zfX6_76 rfl (lk_30 h18) (by decide) (lf_3 h18) ?_
      refine zw_iload_n dX6_addVariable_52 rfl ?_
      refine zw_iastore dX6_addVariable_53 (lk_32 h18) (by decide) (zin_of (ll_32 h18) (by unfold vp_in; decide)) ?_
      refine zw_gen (fun g19 e19 => ?_)
      have h19 : lSh xs g19 := by rw [e19]; exact lSh_I (by decide) h18
      have t19 : zF g19 6 0 30 = 0 := by rw [e19, zF_zsI]; exact t18
      have r19 := lKp_c e19 (lKp_I r18)
      refine zw_aload_n dX6_addVariable_54 rfl ?_
      refine zw_getR dX6_addVariable_55 zfX6_16 rfl (lk_30 h19) (by decide) (lg_5 h19) ?_
      refine zw_aload_n dX6_addVariable_58 rfl ?_
      refine zw_getIv (x := 0) dX6_addVariable_59 zfX6_76 rfl (lk_30 h19) (by decide) (lf_3 h19) ?_
      refine zw_iload_n dX6_addVariable_62 rfl ?_
      refine zw_iastore dX6_addVariable_63 (lk_33 h19) (by decide) (zin_of (ll_33 h19) (by unfold vp_in; decide)) ?_
      refine zw_gen (fun g20 e20 => ?_)
      have h20 : lSh xs g20 := by rw [e20]; exact lSh_I (by decide) h19
      have t20 : zF g20 6 0 30 = 0 := by rw [e20, zF_zsI]; exact t19
      have r20 := lKp_c e20 (lKp_I r19)
      refine zw_aload_n dX6_addVariable_64 rfl ?_
      refine zw_dup dX6_addVariable_65 rfl ?_
      refine zw_getIv (x := 0) dX6_addVariable_66 zfX6_76 rfl (lk_30 h20) (by decide) (lf_3 h20) ?_
      refine zw_iconst (x := 1) dX6_addVariable_69 rfl ?_
      refine zw_iadd dX6_addVariable_70 ?_
      refine zw_putI dX6_addVariable_71 zfX6_76 rfl rfl ⟨rfl, rfl⟩ (lk_30 h20) (by decide) ?_
      refine zw_gen (fun g21 e21 => ?_)
      have k21 : zK g21 30 = 6 := by rw [e21]; exact (have kq := (lk_30 h20); kq)
      have t21 : zF g21 6 0 30 = 0 := by rw [e21, zF_zsF, if_neg (by decide)]; exact t20
      have p21 : zF g21 6 3 30 = 1 := by rw [e21, zF_zsF, if_pos ⟨rfl, rfl, rfl⟩]; rfl
      have r21 := lKp_c e21 (lKp_F r20)
      refine zw_aload_n dX6_addVariable_74 rfl ?_
      refine zw_callV (y' := zmX6_forget) dX6_addVariable_75 zlX6_92 zmX6_forget_ok k21 (by decide) rfl (c1_X6_forget (xs := xs) k21) rfl rfl (Nat.le_of_ble_eq_true rfl) ⟨Nat.le_of_ble_eq_true rfl, Nat.le_of_ble_eq_true rfl⟩ ⟨Nat.le_of_ble_eq_true rfl, Nat.le_of_ble_eq_true rfl⟩ ?_
      intro v75 s75 q75
      obtain ⟨rfl, rfl⟩ := q75
      refine zw_gen (fun g22 e22 => ?_)
      have k22 : zK g22 30 = 6 := by rw [e22]; exact k21
      have t22 : zF g22 6 0 30 = 0 := by rw [e22, zF_zsF, if_neg (by decide), zF_zsF, if_neg (by decide)]; exact t21
      have p22 : zF g22 6 3 30 = 1 := by rw [e22, zF_zsF, if_neg (by decide), zF_zsF, if_neg (by decide)]; exact p21
      have r22 := lKp_c e22 (lKp_F (lKp_F r21))
      refine zw_aload_n dX6_addVariable_78 rfl ?_
      refine zw_getIv (x := 1) dX6_addVariable_79 zfX6_76 rfl k22 (by decide) p22 ?_
      refine zw_iconst (x := 1) dX6_addVariable_82 rfl ?_
      refine zw_isub dX6_addVariable_83 ?_
      refine zw_iret dX6_addVariable_84 rfl rfl ?_
      exact Or.inr ⟨rfl, t22, r22, hb9, hb18⟩
    · skip
      refine zw_ifne (tgt := 30) dX6_addVariable_21 (by decide) (fun c21 => absurd c21 (by decide)) (fun c21 => ?_)
      refine zw_aload_n dX6_addVariable_24 rfl ?_
      refine zw_iconst (x := 1) dX6_addVariable_25 rfl ?_
      refine zw_callV (y' := zmX6_fail) dX6_addVariable_26 zlX6_88 zmX6_fail_ok (lk_30 h18) (by decide) rfl (c1_X6_fail (xs := xs) (lk_30 h18) _) rfl rfl (Nat.le_of_ble_eq_true rfl) ⟨Nat.le_of_ble_eq_true rfl, Nat.le_of_ble_eq_true rfl⟩ ⟨Nat.le_of_ble_eq_true rfl, Nat.le_of_ble_eq_true rfl⟩ ?_
      intro v26 s26 q26
      obtain ⟨rfl, rfl⟩ := q26
      refine zw_iret dX6_addVariable_29 rfl rfl ?_
      exact Or.inl ⟨⟨_, rfl⟩, (by rw [zF_zsF, if_pos ⟨rfl, rfl, rfl⟩]), (lKp_F r18), fun hh => hb18 hh.2⟩
  · skip
    refine zw_ifeq (tgt := 24) dX6_addVariable_12 (by decide) (fun c12 => ?_) (fun c12 => absurd c12 (by decide))
    refine zw_aload_n dX6_addVariable_24 rfl ?_
    refine zw_iconst (x := 1) dX6_addVariable_25 rfl ?_
    refine zw_callV (y' := zmX6_fail) dX6_addVariable_26 zlX6_88 zmX6_fail_ok (lk_30 h18) (by decide) rfl (c1_X6_fail (xs := xs) (lk_30 h18) _) rfl rfl (Nat.le_of_ble_eq_true rfl) ⟨Nat.le_of_ble_eq_true rfl, Nat.le_of_ble_eq_true rfl⟩ ⟨Nat.le_of_ble_eq_true rfl, Nat.le_of_ble_eq_true rfl⟩ ?_
    intro v26 s26 q26
    obtain ⟨rfl, rfl⟩ := q26
    refine zw_iret dX6_addVariable_29 rfl rfl ?_
    exact Or.inl ⟨⟨_, rfl⟩, (by rw [zF_zsF, if_pos ⟨rfl, rfl, rfl⟩]), (lKp_F r18), fun hh => hb9 hh.1⟩
set_option maxHeartbeats 4000000 in
set_option maxRecDepth 100000 in
theorem c1_X6_count {l : Launch} {xs : Nat → Int32} {σ : zS} (h : lSh xs σ) (p : Int32) : zAM l zmX6_count 1 23 0 0 [.ref 30, .int p] σ (fun v σ' => ((∃ b, v = some (.int b)) ∧ zF σ' 6 0 30 = 1 ∧ lKp σ σ' ∧ ¬ (0 ≤ p ∧ p ≤ 5)) ∨ (v = some (.int 0) ∧ zF σ' 6 0 30 = 0 ∧ lKp σ σ' ∧ 0 ≤ p ∧ p ≤ 5)) := by
  have r0 := lKp_rf σ
  refine zAM.of (by decide +kernel) (Nat.le_of_ble_eq_true rfl) ?_
  refine zw_aload_n dX6_count_0 rfl ?_
  refine zw_iconst (x := 0) dX6_count_1 rfl ?_
  refine zw_putI dX6_count_2 zfX6_65 rfl rfl ⟨rfl, rfl⟩ (lk_30 h) (by decide) ?_
  refine zw_gen (fun g23 e23 => ?_)
  have h23 : lSh xs g23 := by rw [e23]; exact lSh_F0 h
  have t23 : zF g23 6 0 30 = 0 := by rw [e23, zF_zsF, if_pos ⟨rfl, rfl, rfl⟩]
  have r23 := lKp_c e23 (lKp_F r0)
  refine zw_iload_n dX6_count_5 rfl ?_
  refine zw_iconst (x := 0) dX6_count_6 rfl ?_
  refine zw_iconst (x := 5) dX6_count_7 rfl ?_
  refine zw_callS (y' := zmX6_isIn) dX6_count_8 zlX6_72 zmX6_isIn_ok (c1_X6_isIn (xs := xs) _ _ _) rfl rfl (Nat.le_of_ble_eq_true rfl) ⟨Nat.le_of_ble_eq_true rfl, Nat.le_of_ble_eq_true rfl⟩ ⟨Nat.le_of_ble_eq_true rfl, Nat.le_of_ble_eq_true rfl⟩ ?_
  intro v8 s8 q8
  rcases q8 with ⟨⟨rfl, hb8⟩ | ⟨rfl, hb8⟩, rfl⟩
  · skip
    refine zw_ifeq (tgt := 22) dX6_count_11 (by decide) (fun c11 => absurd c11 (by decide)) (fun c11 => ?_)
    refine zw_aload_n dX6_count_14 rfl ?_
    refine zw_iload_n dX6_count_15 rfl ?_
    refine zw_callV (y' := zmX6_counted) dX6_count_16 zlX6_116 zmX6_counted_ok (lk_30 h23) (by decide) rfl (c1_X6_counted h23 _) rfl rfl (Nat.le_of_ble_eq_true rfl) ⟨Nat.le_of_ble_eq_true rfl, Nat.le_of_ble_eq_true rfl⟩ ⟨Nat.le_of_ble_eq_true rfl, Nat.le_of_ble_eq_true rfl⟩ ?_
    intro v16 s16 q16
    obtain ⟨rfl, rfl⟩ := q16
    refine zw_goto (tgt := 27) dX6_count_19 (by decide) ?_
    refine zw_iret dX6_count_27 rfl rfl ?_
    exact Or.inr ⟨rfl, t23, r23, hb8⟩
  · skip
    refine zw_ifeq (tgt := 22) dX6_count_11 (by decide) (fun c11 => ?_) (fun c11 => absurd c11 (by decide))
    refine zw_aload_n dX6_count_22 rfl ?_
    refine zw_iconst (x := 1) dX6_count_23 rfl ?_
    refine zw_callV (y' := zmX6_fail) dX6_count_24 zlX6_88 zmX6_fail_ok (lk_30 h23) (by decide) rfl (c1_X6_fail (xs := xs) (lk_30 h23) _) rfl rfl (Nat.le_of_ble_eq_true rfl) ⟨Nat.le_of_ble_eq_true rfl, Nat.le_of_ble_eq_true rfl⟩ ⟨Nat.le_of_ble_eq_true rfl, Nat.le_of_ble_eq_true rfl⟩ ?_
    intro v24 s24 q24
    obtain ⟨rfl, rfl⟩ := q24
    refine zw_iret dX6_count_27 rfl rfl ?_
    exact Or.inl ⟨⟨_, rfl⟩, (by rw [zF_zsF, if_pos ⟨rfl, rfl, rfl⟩]), (lKp_F r23), hb8⟩
set_option maxHeartbeats 4000000 in
set_option maxRecDepth 100000 in
theorem c1_X6_branching {l : Launch} {xs : Nat → Int32} {σ : zS} (h : lSh xs σ)  : zAM l zmX6_branching 0 0 0 0 [.ref 30] σ (fun v σ' => v = some (.double FP.dconst0) ∧ lKp σ σ') := by
  have r0 := lKp_rf σ
  refine zAM.of (by decide +kernel) (Nat.le_of_ble_eq_true rfl) ?_
  refine zw_aload_n dX6_branching_0 rfl ?_
  refine zw_iconst (x := 0) dX6_branching_1 rfl ?_
  refine zw_putI dX6_branching_2 zfX6_65 rfl rfl ⟨rfl, rfl⟩ (lk_30 h) (by decide) ?_
  refine zw_gen (fun g24 e24 => ?_)
  have h24 : lSh xs g24 := by rw [e24]; exact lSh_F0 h
  have t24 : zF g24 6 0 30 = 0 := by rw [e24, zF_zsF, if_pos ⟨rfl, rfl, rfl⟩]
  have r24 := lKp_c e24 (lKp_F r0)
  refine zw_aload_n dX6_branching_5 rfl ?_
  refine zw_getIv (x := 0) dX6_branching_6 zfX6_82 rfl (lk_30 h24) (by decide) (lf_10 h24) ?_
  refine zw_ifne (tgt := 16) dX6_branching_9 (by decide) (fun c9 => absurd c9 (by decide)) (fun c9 => ?_)
  refine zw_dconst0 dX6_branching_12 ?_
  refine zw_goto (tgt := 27) dX6_branching_13 (by decide) ?_
  refine zw_dret dX6_branching_27 rfl ?_
  exact ⟨rfl, r24⟩
set_option maxHeartbeats 4000000 in
set_option maxRecDepth 100000 in
theorem c1_X6_digest {l : Launch} {xs : Nat → Int32} {σ : zS} (h : lSh xs σ)  : zAM l zmX6_digest 2 43 0 0 [.ref 30] σ (fun v σ' => v = some (.long 352338961357) ∧ lKp σ σ') := by
  have r0 := lKp_rf σ
  refine zAM.of (by decide +kernel) (Nat.le_of_ble_eq_true rfl) ?_
  refine zw_aload_n dX6_digest_0 rfl ?_
  refine zw_iconst (x := 0) dX6_digest_1 rfl ?_
  refine zw_putI dX6_digest_2 zfX6_65 rfl rfl ⟨rfl, rfl⟩ (lk_30 h) (by decide) ?_
  refine zw_gen (fun g25 e25 => ?_)
  have h25 : lSh xs g25 := by rw [e25]; exact lSh_F0 h
  have t25 : zF g25 6 0 30 = 0 := by rw [e25, zF_zsF, if_pos ⟨rfl, rfl, rfl⟩]
  have r25 := lKp_c e25 (lKp_F r0)
  refine zw_ldc2 (x := 397) dX6_digest_5 zk2X6_206 ?_
  refine zw_lstore_n dX6_digest_8 (by decide) rfl rfl ?_
  refine zw_iconst (x := 0) dX6_digest_9 rfl ?_
  refine zw_istore_n dX6_digest_10 (by decide) rfl ?_
  refine zw_iload_n dX6_digest_11 rfl ?_
  refine zw_bipush (x := 6) dX6_digest_12 rfl ?_
  refine zw_icmpge (tgt := 36) dX6_digest_14 (by decide) (fun c14 => absurd c14 (by decide)) (fun c14 => ?_)
  refine zw_lload_n dX6_digest_17 rfl ?_
  refine zw_ldc2 (x := 31) dX6_digest_18 zk2X6_208 ?_
  refine zw_lmul dX6_digest_21 ?_
  refine zw_aload_n dX6_digest_22 rfl ?_
  refine zw_iload_n dX6_digest_23 rfl ?_
  refine zw_callV (y' := zmX6_counted) dX6_digest_24 zlX6_116 zmX6_counted_ok (lk_30 h25) (by decide) rfl (c1_X6_counted h25 _) rfl rfl (Nat.le_of_ble_eq_true rfl) ⟨Nat.le_of_ble_eq_true rfl, Nat.le_of_ble_eq_true rfl⟩ ⟨Nat.le_of_ble_eq_true rfl, Nat.le_of_ble_eq_true rfl⟩ ?_
  intro v24 s24 q24
  obtain ⟨rfl, rfl⟩ := q24
  refine zw_i2l dX6_digest_27 ?_
  refine zw_ladd dX6_digest_28 ?_
  refine zw_lstore_n dX6_digest_29 (by decide) rfl rfl ?_
  refine zw_iinc dX6_digest_30 rfl (by decide) rfl ?_
  refine zw_goto (tgt := 11) dX6_digest_33 (by decide) ?_
  refine zw_iload_n dX6_digest_11 rfl ?_
  refine zw_bipush (x := 6) dX6_digest_12 rfl ?_
  refine zw_icmpge (tgt := 36) dX6_digest_14 (by decide) (fun c14 => absurd c14 (by decide)) (fun c14 => ?_)
  refine zw_lload_n dX6_digest_17 rfl ?_
  refine zw_ldc2 (x := 31) dX6_digest_18 zk2X6_208 ?_
  refine zw_lmul dX6_digest_21 ?_
  refine zw_aload_n dX6_digest_22 rfl ?_
  refine zw_iload_n dX6_digest_23 rfl ?_
  refine zw_callV (y' := zmX6_counted) dX6_digest_24 zlX6_116 zmX6_counted_ok (lk_30 h25) (by decide) rfl (c1_X6_counted h25 _) rfl rfl (Nat.le_of_ble_eq_true rfl) ⟨Nat.le_of_ble_eq_true rfl, Nat.le_of_ble_eq_true rfl⟩ ⟨Nat.le_of_ble_eq_true rfl, Nat.le_of_ble_eq_true rfl⟩ ?_
  intro v24 s24 q24
  obtain ⟨rfl, rfl⟩ := q24
  refine zw_i2l dX6_digest_27 ?_
  refine zw_ladd dX6_digest_28 ?_
  refine zw_lstore_n dX6_digest_29 (by decide) rfl rfl ?_
  refine zw_iinc dX6_digest_30 rfl (by decide) rfl ?_
  refine zw_goto (tgt := 11) dX6_digest_33 (by decide) ?_
  refine zw_iload_n dX6_digest_11 rfl ?_
  refine zw_bipush (x := 6) dX6_digest_12 rfl ?_
  refine zw_icmpge (tgt := 36) dX6_digest_14 (by decide) (fun c14 => absurd c14 (by decide)) (fun c14 => ?_)
  refine zw_lload_n dX6_digest_17 rfl ?_
  refine zw_ldc2 (x := 31) dX6_digest_18 zk2X6_208 ?_
  refine zw_lmul dX6_digest_21 ?_
  refine zw_aload_n dX6_digest_22 rfl ?_
  refine zw_iload_n dX6_digest_23 rfl ?_
  refine zw_callV (y' := zmX6_counted) dX6_digest_24 zlX6_116 zmX6_counted_ok (lk_30 h25) (by decide) rfl (c1_X6_counted h25 _) rfl rfl (Nat.le_of_ble_eq_true rfl) ⟨Nat.le_of_ble_eq_true rfl, Nat.le_of_ble_eq_true rfl⟩ ⟨Nat.le_of_ble_eq_true rfl, Nat.le_of_ble_eq_true rfl⟩ ?_
  intro v24 s24 q24
  obtain ⟨rfl, rfl⟩ := q24
  refine zw_i2l dX6_digest_27 ?_
  refine zw_ladd dX6_digest_28 ?_
  refine zw_lstore_n dX6_digest_29 (by decide) rfl rfl ?_
  refine zw_iinc dX6_digest_30 rfl (by decide) rfl ?_
  refine zw_goto (tgt := 11) dX6_digest_33 (by decide) ?_
  refine zw_iload_n dX6_digest_11 rfl ?_
  refine zw_bipush (x := 6) dX6_digest_12 rfl ?_
  refine zw_icmpge (tgt := 36) dX6_digest_14 (by decide) (fun c14 => absurd c14 (by decide)) (fun c14 => ?_)
  refine zw_lload_n dX6_digest_17 rfl ?_
  refine zw_ldc2 (x := 31) dX6_digest_18 zk2X6_208 ?_
  refine zw_lmul dX6_digest_21 ?_
  refine zw_aload_n dX6_digest_22 rfl ?_
  refine zw_iload_n dX6_digest_23 rfl ?_
  refine zw_callV (y' := zmX6_counted) dX6_digest_24 zlX6_116 zmX6_counted_ok (lk_30 h25) (by decide) rfl (c1_X6_counted h25 _) rfl rfl (Nat.le_of_ble_eq_true rfl) ⟨Nat.le_of_ble_eq_true rfl, Nat.le_of_ble_eq_true rfl⟩ ⟨Nat.le_of_ble_eq_true rfl, Nat.le_of_ble_eq_true rfl⟩ ?_
  intro v24 s24 q24
  obtain ⟨rfl, rfl⟩ := q24
  refine zw_i2l dX6_digest_27 ?_
  refine zw_ladd dX6_digest_28 ?_
  refine zw_lstore_n dX6_digest_29 (by decide) rfl rfl ?_
  refine zw_iinc dX6_digest_30 rfl (by decide) rfl ?_
  refine zw_goto (tgt := 11) dX6_digest_33 (by decide) ?_
  refine zw_iload_n dX6_digest_11 rfl ?_
  refine zw_bipush (x := 6) dX6_digest_12 rfl ?_
  refine zw_icmpge (tgt := 36) dX6_digest_14 (by decide) (fun c14 => absurd c14 (by decide)) (fun c14 => ?_)
  refine zw_lload_n dX6_digest_17 rfl ?_
  refine zw_ldc2 (x := 31) dX6_digest_18 zk2X6_208 ?_
  refine zw_lmul dX6_digest_21 ?_
  refine zw_aload_n dX6_digest_22 rfl ?_
  refine zw_iload_n dX6_digest_23 rfl ?_
  refine zw_callV (y' := zmX6_counted) dX6_digest_24 zlX6_116 zmX6_counted_ok (lk_30 h25) (by decide) rfl (c1_X6_counted h25 _) rfl rfl (Nat.le_of_ble_eq_true rfl) ⟨Nat.le_of_ble_eq_true rfl, Nat.le_of_ble_eq_true rfl⟩ ⟨Nat.le_of_ble_eq_true rfl, Nat.le_of_ble_eq_true rfl⟩ ?_
  intro v24 s24 q24
  obtain ⟨rfl, rfl⟩ := q24
  refine zw_i2l dX6_digest_27 ?_
  refine zw_ladd dX6_digest_28 ?_
  refine zw_lstore_n dX6_digest_29 (by decide) rfl rfl ?_
  refine zw_iinc dX6_digest_30 rfl (by decide) rfl ?_
  refine zw_goto (tgt := 11) dX6_digest_33 (by decide) ?_
  refine zw_iload_n dX6_digest_11 rfl ?_
  refine zw_bipush (x := 6) dX6_digest_12 rfl ?_
  refine zw_icmpge (tgt := 36) dX6_digest_14 (by decide) (fun c14 => absurd c14 (by decide)) (fun c14 => ?_)
  refine zw_lload_n dX6_digest_17 rfl ?_
  refine zw_ldc2 (x := 31) dX6_digest_18 zk2X6_208 ?_
  refine zw_lmul dX6_digest_21 ?_
  refine zw_aload_n dX6_digest_22 rfl ?_
  refine zw_iload_n dX6_digest_23 rfl ?_
  refine zw_callV (y' := zmX6_counted) dX6_digest_24 zlX6_116 zmX6_counted_ok (lk_30 h25) (by decide) rfl (c1_X6_counted h25 _) rfl rfl (Nat.le_of_ble_eq_true rfl) ⟨Nat.le_of_ble_eq_true rfl, Nat.le_of_ble_eq_true rfl⟩ ⟨Nat.le_of_ble_eq_true rfl, Nat.le_of_ble_eq_true rfl⟩ ?_
  intro v24 s24 q24
  obtain ⟨rfl, rfl⟩ := q24
  refine zw_i2l dX6_digest_27 ?_
  refine zw_ladd dX6_digest_28 ?_
  refine zw_lstore_n dX6_digest_29 (by decide) rfl rfl ?_
  refine zw_iinc dX6_digest_30 rfl (by decide) rfl ?_
  refine zw_goto (tgt := 11) dX6_digest_33 (by decide) ?_
  refine zw_iload_n dX6_digest_11 rfl ?_
  refine zw_bipush (x := 6) dX6_digest_12 rfl ?_
  refine zw_icmpge (tgt := 36) dX6_digest_14 (by decide) (fun c14 => ?_) (fun c14 => absurd c14 (by decide))
  refine zw_iconst (x := 0) dX6_digest_36 rfl ?_
  refine zw_istore_n dX6_digest_37 (by decide) rfl ?_
  refine zw_iload_n dX6_digest_38 rfl ?_
  refine zw_aload_n dX6_digest_39 rfl ?_
  refine zw_getIv (x := 0) dX6_digest_40 zfX6_82 rfl (lk_30 h25) (by decide) (lf_10 h25) ?_
  refine zw_icmpge (tgt := 199) dX6_digest_43 (by decide) (fun c43 => ?_) (fun c43 => absurd c43 (by decide))
  refine zw_iconst (x := 0) dX6_digest_199 rfl ?_
  refine zw_istore_n dX6_digest_200 (by decide) rfl ?_
  refine zw_iload_n dX6_digest_201 rfl ?_
  refine zw_aload_n dX6_digest_202 rfl ?_
  refine zw_getIv (x := 0) dX6_digest_203 zfX6_79 rfl (lk_30 h25) (by decide) (lf_8 h25) ?_
  refine zw_icmpge (tgt := 235) dX6_digest_206 (by decide) (fun c206 => ?_) (fun c206 => absurd c206 (by decide))
  refine zw_lload_n dX6_digest_235 rfl ?_
  refine zw_lret dX6_digest_236 rfl ?_
  exact ⟨congrArg (fun z => some (Value.long z)) (by decide +kernel), r25⟩
