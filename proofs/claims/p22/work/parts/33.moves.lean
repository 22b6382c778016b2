/-! moves, facts, ways, leads -/
theorem xSh.C1 {σ : zS} (hw : zWF σ) (h : xSh σ) (c : Nat) : xSh (znC1 σ c) := by
  have hne : ∀ a, zK σ a ≠ 999 → a ≠ zn σ := fun a ha e => ha (by rw [e]; exact hw.2.2 _ (Nat.le_refl _))
  refine h.mono (fun a ha => ?_) (fun _ _ => rfl) (fun c' k a ha hck => ?_)
  · rw [zK_znC1, if_neg (hne a ha)]
  · rw [zG_znC1, if_neg (hne a ha)]
def xNm (σ : zS) (p m : Nat) (f t d : Int32) : zS := zsI (zsR (zsF (zsF (zsF (zsF (zsF (znC1 σ 1) 1 0 (zn σ) (nI p)) 1 1 (zn σ) (nI m)) 1 2 (zn σ) f) 1 3 (zn σ) t) 1 4 (zn σ) d) 5 (16 * p + m) (some (zn σ))) 4 p (nI (m + 1))
set_option maxHeartbeats 4000000 in
set_option maxRecDepth 100000 in
theorem c_X2_newMove {l : Launch} {σ : zS} (h : xSh σ) {p m : Nat} (hp : p < 5) (hmc : zI σ 4 p = nI m) (hm : m < 16) (f t d : Int32) : zAM l zmX2_newMove 2 45 1 12 [.ref 2, .int (nI p), .int f, .int t, .int d] σ (fun v σ' => v = some (.int (nI m)) ∧ σ' = xNm σ p m f t d) := by
  refine zAM.of (by decide +kernel) (Nat.le_of_ble_eq_true rfl) ?_
  refine zw_aload_n dX2_newMove_0 rfl ?_
  refine zw_getR dX2_newMove_1 zfX2_15 rfl (xk_2 h) (by decide) (xg_2_1 h) ?_
  refine zw_iload_n dX2_newMove_4 rfl ?_
  refine zw_iaload dX2_newMove_5 (xk_4 h) (zin_of (xl_4 h) (vp_in_nI (by omega) (by omega))) ?_
  rw [nI_clamp (show p < 2 ^ 31 by omega), hmc]
  refine zw_istore dX2_newMove_6 (by decide) rfl ?_
  refine zw_aload_n dX2_newMove_8 rfl ?_
  refine zw_getR dX2_newMove_9 zfX2_20 rfl (xk_2 h) (by decide) (xg_2_2 h) ?_
  refine zw_iload_n dX2_newMove_12 rfl ?_
  refine zw_bipush (x := 16) dX2_newMove_13 rfl ?_
  refine zw_imul dX2_newMove_15 ?_
  refine zw_iload dX2_newMove_16 rfl ?_
  refine zw_iadd dX2_newMove_18 ?_
  rw [nI_find (P := 5) (mc := 16) (Nat.le_refl _) hp hm (Nat.le_refl _)]
  refine zw_wf (fun hw => ?_)
  have h1 : xSh (znC1 σ 1) := h.C1 hw 1
  have hk19 : zK (znC1 σ 1) (zn σ) = 1 := by rw [zK_znC1, if_pos rfl]
  refine zw_new dX2_newMove_19 znX2_18 zdef_1 (by decide) ⟨Nat.le_of_ble_eq_true rfl, Nat.le_of_ble_eq_true rfl⟩ ?_
  refine zw_dup dX2_newMove_22 rfl ?_
  refine zw_iload_n dX2_newMove_23 rfl ?_
  refine zw_iload dX2_newMove_24 rfl ?_
  refine zw_iload_n dX2_newMove_26 rfl ?_
  refine zw_iload_n dX2_newMove_27 rfl ?_
  refine zw_iload dX2_newMove_28 rfl ?_
  refine zw_callI (y' := zmX1_init) dX2_newMove_30 zlX2_48 zmX1_init_ok (c_X1_init (σ := znC1 σ 1) (a := zn σ) hk19 (nI p) (nI m) f t d) rfl rfl (Nat.le_of_ble_eq_true rfl) ⟨Nat.le_of_ble_eq_true rfl, Nat.le_of_ble_eq_true rfl⟩ ⟨Nat.le_of_ble_eq_true rfl, Nat.le_of_ble_eq_true rfl⟩ ?_
  intro v30 s30 q30
  obtain ⟨rfl, z30⟩ := q30
  rw [z30]
  clear z30
  refine zw_aastore (t := 3) dX2_newMove_33 (xk_5 h1) (by decide) rfl hk19 (by decide) (zin_of (xl_5 h1) (vp_in_nI (by omega) (by decide))) ?_
  refine zw_aload_n dX2_newMove_34 rfl ?_
  refine zw_getR dX2_newMove_35 zfX2_15 rfl (xk_2 h1) (by decide) (xg_2_1 h1) ?_
  refine zw_iload_n dX2_newMove_38 rfl ?_
  refine zw_iload dX2_newMove_39 rfl ?_
  refine zw_iconst (x := 1) dX2_newMove_41 rfl ?_
  refine zw_iadd dX2_newMove_42 ?_
  refine zw_iastore dX2_newMove_43 (xk_4 h1) (by decide) (zin_of (xl_4 h1) (vp_in_nI (by omega) (by omega))) ?_
  refine zw_iload dX2_newMove_44 rfl ?_
  refine zw_iret dX2_newMove_46 rfl rfl ?_
  rw [nI_clamp (show p < 2 ^ 31 by omega), nI_clamp (show 16 * p + m < 2 ^ 31 by omega), nI_1]
  exact ⟨rfl, rfl⟩
set_option maxHeartbeats 4000000 in
set_option maxRecDepth 100000 in
theorem c_X5_addMove {l : Launch} {σ : zS} (h : xSh σ) {P : Nat} (hP : xP σ = nI P) (hP5 : P ≤ 5) {i m : Nat} (hi : i < P) (hmc : zI σ 4 i = nI m) (hm : m < 16) {f t d : Int32} (hf : 0 ≤ f ∧ f < zI σ 3 i) (ht : 0 ≤ t ∧ t < zI σ 3 i) (hd : 0 ≤ d ∧ d ≤ 9) : zAM l zmX5_addMove 3 70 1 12 [.ref 1, .int (nI i), .int f, .int t, .int d] σ (fun v σ' => v = some (.int (nI m)) ∧ σ' = xNm (xFg σ) i m f t d) := by
  refine zAM.of (by decide +kernel) (Nat.le_of_ble_eq_true rfl) ?_
  refine zw_aload_n dX5_addMove_0 rfl ?_
  refine zw_getR dX5_addMove_1 zfX5_12 rfl (xk_1 h) (by decide) (xg_5_0 h) ?_
  refine zw_iload_n dX5_addMove_4 rfl ?_
  refine zw_callV (y' := zmX2_hasProcess) dX5_addMove_5 zlX5_77 zmX2_hasProcess_ok (xk_2 h) (by decide) rfl (c_X2_hasProcess h _) rfl rfl (Nat.le_of_ble_eq_true rfl) ⟨Nat.le_of_ble_eq_true rfl, Nat.le_of_ble_eq_true rfl⟩ ⟨Nat.le_of_ble_eq_true rfl, Nat.le_of_ble_eq_true rfl⟩ ?_
  intro v5 s5 q5
  obtain ⟨rfl, z5⟩ := q5
  rw [z5]
  clear z5
  rw [zb_t (nI_both hP hP5 hi)]
  refine zw_ifne (tgt := 21) dX5_addMove_8 (by decide) (fun c8 => ?_) (fun c8 => ?_)
  · refine zw_aload_n dX5_addMove_21 rfl ?_
    refine zw_getR dX5_addMove_22 zfX5_12 rfl (xk_1 h) (by decide) (xg_5_0 h) ?_
    refine zw_iload_n dX5_addMove_25 rfl ?_
    refine zw_iload_n dX5_addMove_26 rfl ?_
    refine zw_callV (y' := zmX2_hasLocation) dX5_addMove_27 zlX5_86 zmX2_hasLocation_ok (xk_2 h) (by decide) rfl (c_X2_hasLocation h hP hP5 hi _) rfl rfl (Nat.le_of_ble_eq_true rfl) ⟨Nat.le_of_ble_eq_true rfl, Nat.le_of_ble_eq_true rfl⟩ ⟨Nat.le_of_ble_eq_true rfl, Nat.le_of_ble_eq_true rfl⟩ ?_
    intro v27 s27 q27
    obtain ⟨rfl, z27⟩ := q27
    rw [z27]
    clear z27
    rw [zb_t hf]
    refine zw_ifeq (tgt := 45) dX5_addMove_30 (by decide) (fun c30 => ?_) (fun c30 => ?_)
    · exact absurd c30 (by decide)
    · refine zw_aload_n dX5_addMove_33 rfl ?_
      refine zw_getR dX5_addMove_34 zfX5_12 rfl (xk_1 h) (by decide) (xg_5_0 h) ?_
      refine zw_iload_n dX5_addMove_37 rfl ?_
      refine zw_iload_n dX5_addMove_38 rfl ?_
      refine zw_callV (y' := zmX2_hasLocation) dX5_addMove_39 zlX5_86 zmX2_hasLocation_ok (xk_2 h) (by decide) rfl (c_X2_hasLocation h hP hP5 hi _) rfl rfl (Nat.le_of_ble_eq_true rfl) ⟨Nat.le_of_ble_eq_true rfl, Nat.le_of_ble_eq_true rfl⟩ ⟨Nat.le_of_ble_eq_true rfl, Nat.le_of_ble_eq_true rfl⟩ ?_
      intro v39 s39 q39
      obtain ⟨rfl, z39⟩ := q39
      rw [z39]
      clear z39
      rw [zb_t ht]
      refine zw_ifne (tgt := 55) dX5_addMove_42 (by decide) (fun c42 => ?_) (fun c42 => ?_)
      · refine zw_iload dX5_addMove_55 rfl ?_
        refine zw_iconst (x := 0) dX5_addMove_57 rfl ?_
        refine zw_bipush (x := 9) dX5_addMove_58 rfl ?_
        refine zw_callS (y' := zmX5_isBetween) dX5_addMove_60 zlX5_37 zmX5_isBetween_ok (c_X5_isBetween _ _ _) rfl rfl (Nat.le_of_ble_eq_true rfl) ⟨Nat.le_of_ble_eq_true rfl, Nat.le_of_ble_eq_true rfl⟩ ⟨Nat.le_of_ble_eq_true rfl, Nat.le_of_ble_eq_true rfl⟩ ?_
        intro v60 s60 q60
        obtain ⟨rfl, z60⟩ := q60
        rw [z60]
        clear z60
        rw [zb_t hd]
        refine zw_ifne (tgt := 76) dX5_addMove_63 (by decide) (fun c63 => ?_) (fun c63 => ?_)
        · refine zw_aload_n dX5_addMove_76 rfl ?_
          refine zw_getR dX5_addMove_77 zfX5_12 rfl (xk_1 h) (by decide) (xg_5_0 h) ?_
          refine zw_iload_n dX5_addMove_80 rfl ?_
          refine zw_callV (y' := zmX2_movesOf) dX5_addMove_81 zlX5_94 zmX2_movesOf_ok (xk_2 h) (by decide) rfl (c_X2_movesOf h hP hP5 hi) rfl rfl (Nat.le_of_ble_eq_true rfl) ⟨Nat.le_of_ble_eq_true rfl, Nat.le_of_ble_eq_true rfl⟩ ⟨Nat.le_of_ble_eq_true rfl, Nat.le_of_ble_eq_true rfl⟩ ?_
          intro v81 s81 q81
          obtain ⟨rfl, z81⟩ := q81
          rw [z81]
          clear z81
          rw [hmc]
          refine zw_bipush (x := 16) dX5_addMove_84 rfl ?_
          refine zw_icmplt (tgt := 99) dX5_addMove_86 (by decide) (fun c86 => ?_) (fun c86 => ?_)
          · refine zw_aload_n dX5_addMove_99 rfl ?_
            refine zw_getR dX5_addMove_100 zfX5_19 rfl (xk_1 h) (by decide) (xg_5_1 h) ?_
            refine zw_callV (y' := zmX3_forget) dX5_addMove_103 zlX5_57 zmX3_forget_ok (xk_8 h) (by decide) rfl (c_X3_forget h) rfl rfl (Nat.le_of_ble_eq_true rfl) ⟨Nat.le_of_ble_eq_true rfl, Nat.le_of_ble_eq_true rfl⟩ ⟨Nat.le_of_ble_eq_true rfl, Nat.le_of_ble_eq_true rfl⟩ ?_
            intro v103 s103 q103
            obtain ⟨rfl, z103⟩ := q103
            rw [z103]
            clear z103
            refine zw_aload_n dX5_addMove_106 rfl ?_
            refine zw_getR dX5_addMove_107 zfX5_12 rfl (xk_1 h) (by decide) (xg_5_0 h) ?_
            refine zw_iload_n dX5_addMove_110 rfl ?_
            refine zw_iload_n dX5_addMove_111 rfl ?_
            refine zw_iload_n dX5_addMove_112 rfl ?_
            refine zw_iload dX5_addMove_113 rfl ?_
            refine zw_callV (y' := zmX2_newMove) dX5_addMove_115 zlX5_99 zmX2_newMove_ok (xk_2 h) (by decide) rfl (c_X2_newMove (σ := xFg σ) h (show i < 5 by omega) hmc hm f t d) rfl rfl (Nat.le_of_ble_eq_true rfl) ⟨Nat.le_of_ble_eq_true rfl, Nat.le_of_ble_eq_true rfl⟩ ⟨Nat.le_of_ble_eq_true rfl, Nat.le_of_ble_eq_true rfl⟩ ?_
            intro v115 s115 q115
            obtain ⟨rfl, z115⟩ := q115
            rw [z115]
            clear z115
            refine zw_iret dX5_addMove_118 rfl rfl ?_
            exact ⟨rfl, rfl⟩
          · rw [i32_16] at c86
            exact absurd (nI_lt hm (by decide)) c86
        · exact absurd c63 (by decide)
      · exact absurd c42 (by decide)
  · exact absurd c8 (by decide)
set_option maxHeartbeats 4000000 in
set_option maxRecDepth 100000 in
theorem c_X5_canBeFact_0 {l : Launch} {σ : zS} (h : xSh σ) {P : Nat} (hP : xP σ = nI P) (hP5 : P ≤ 5) {i : Nat} (hi : i < P) {b : Int32} (hb : 0 ≤ b ∧ b < zI σ 3 i) : zAM l zmX5_canBeFact 2 43 0 0 [.ref 1, .int 0, .int (nI i), .int b] σ (fun v σ' => v = some (.int 1) ∧ σ' = σ) := by
  refine zAM.of (by decide +kernel) (Nat.le_of_ble_eq_true rfl) ?_
  refine zw_iload_n dX5_canBeFact_0 rfl ?_
  refine zw_tableIn (off := 39) (tgt := 40) dX5_canBeFact_1 (by decide) (by decide) (by decide) (by decide) ?_
  refine zw_aload_n dX5_canBeFact_40 rfl ?_
  refine zw_getR dX5_canBeFact_41 zfX5_12 rfl (xk_1 h) (by decide) (xg_5_0 h) ?_
  refine zw_iload_n dX5_canBeFact_44 rfl ?_
  refine zw_iload_n dX5_canBeFact_45 rfl ?_
  refine zw_callV (y' := zmX2_hasLocation) dX5_canBeFact_46 zlX5_86 zmX2_hasLocation_ok (xk_2 h) (by decide) rfl (c_X2_hasLocation h hP hP5 hi _) rfl rfl (Nat.le_of_ble_eq_true rfl) ⟨Nat.le_of_ble_eq_true rfl, Nat.le_of_ble_eq_true rfl⟩ ⟨Nat.le_of_ble_eq_true rfl, Nat.le_of_ble_eq_true rfl⟩ ?_
  intro v46 s46 q46
  obtain ⟨rfl, z46⟩ := q46
  rw [z46]
  clear z46
  rw [zb_t hb]
  refine zw_iret dX5_canBeFact_49 rfl rfl ?_
  exact ⟨rfl, rfl⟩
set_option maxHeartbeats 4000000 in
set_option maxRecDepth 100000 in
theorem c_X5_canBeFact_1 {l : Launch} {σ : zS} (h : xSh σ) {V : Nat} (hV : xV σ = nI V) {a b : Int32} (ha : 0 ≤ a ∧ a < nI V) (hb : 0 ≤ b ∧ b ≤ 9) : zAM l zmX5_canBeFact 2 43 0 0 [.ref 1, .int 1, .int a, .int b] σ (fun v σ' => v = some (.int 1) ∧ σ' = σ) := by
  refine zAM.of (by decide +kernel) (Nat.le_of_ble_eq_true rfl) ?_
  refine zw_iload_n dX5_canBeFact_0 rfl ?_
  refine zw_tableIn (off := 49) (tgt := 50) dX5_canBeFact_1 (by decide) (by decide) (by decide) (by decide) ?_
  refine zw_aload_n dX5_canBeFact_50 rfl ?_
  refine zw_getR dX5_canBeFact_51 zfX5_12 rfl (xk_1 h) (by decide) (xg_5_0 h) ?_
  refine zw_iload_n dX5_canBeFact_54 rfl ?_
  refine zw_callV (y' := zmX2_hasVariable) dX5_canBeFact_55 zlX5_111 zmX2_hasVariable_ok (xk_2 h) (by decide) rfl (c_X2_hasVariable h _) rfl rfl (Nat.le_of_ble_eq_true rfl) ⟨Nat.le_of_ble_eq_true rfl, Nat.le_of_ble_eq_true rfl⟩ ⟨Nat.le_of_ble_eq_true rfl, Nat.le_of_ble_eq_true rfl⟩ ?_
  intro v55 s55 q55
  obtain ⟨rfl, z55⟩ := q55
  rw [z55]
  clear z55
  rw [hV, zb_t ha]
  refine zw_ifeq (tgt := 75) dX5_canBeFact_58 (by decide) (fun c58 => ?_) (fun c58 => ?_)
  · exact absurd c58 (by decide)
  · refine zw_iload_n dX5_canBeFact_61 rfl ?_
    refine zw_iconst (x := 0) dX5_canBeFact_62 rfl ?_
    refine zw_bipush (x := 9) dX5_canBeFact_63 rfl ?_
    refine zw_callS (y' := zmX5_isBetween) dX5_canBeFact_65 zlX5_37 zmX5_isBetween_ok (c_X5_isBetween _ _ _) rfl rfl (Nat.le_of_ble_eq_true rfl) ⟨Nat.le_of_ble_eq_true rfl, Nat.le_of_ble_eq_true rfl⟩ ⟨Nat.le_of_ble_eq_true rfl, Nat.le_of_ble_eq_true rfl⟩ ?_
    intro v65 s65 q65
    obtain ⟨rfl, z65⟩ := q65
    rw [z65]
    clear z65
    rw [zb_t hb]
    refine zw_ifeq (tgt := 75) dX5_canBeFact_68 (by decide) (fun c68 => ?_) (fun c68 => ?_)
    · exact absurd c68 (by decide)
    · refine zw_iconst (x := 1) dX5_canBeFact_71 rfl ?_
      refine zw_goto (tgt := 76) dX5_canBeFact_72 (by decide) ?_
      refine zw_iret dX5_canBeFact_76 rfl rfl ?_
      exact ⟨rfl, rfl⟩
set_option maxHeartbeats 4000000 in
set_option maxRecDepth 100000 in
theorem c_X5_canBeFact_2 {l : Launch} {σ : zS} (h : xSh σ) {V : Nat} (hV : xV σ = nI V) {a b : Int32} (ha : 0 ≤ a ∧ a < nI V) (hb : 0 ≤ b ∧ b ≤ 9) : zAM l zmX5_canBeFact 2 43 0 0 [.ref 1, .int 2, .int a, .int b] σ (fun v σ' => v = some (.int 1) ∧ σ' = σ) := by
  refine zAM.of (by decide +kernel) (Nat.le_of_ble_eq_true rfl) ?_
  refine zw_iload_n dX5_canBeFact_0 rfl ?_
  refine zw_tableIn (off := 49) (tgt := 50) dX5_canBeFact_1 (by decide) (by decide) (by decide) (by decide) ?_
  refine zw_aload_n dX5_canBeFact_50 rfl ?_
  refine zw_getR dX5_canBeFact_51 zfX5_12 rfl (xk_1 h) (by decide) (xg_5_0 h) ?_
  refine zw_iload_n dX5_canBeFact_54 rfl ?_
  refine zw_callV (y' := zmX2_hasVariable) dX5_canBeFact_55 zlX5_111 zmX2_hasVariable_ok (xk_2 h) (by decide) rfl (c_X2_hasVariable h _) rfl rfl (Nat.le_of_ble_eq_true rfl) ⟨Nat.le_of_ble_eq_true rfl, Nat.le_of_ble_eq_true rfl⟩ ⟨Nat.le_of_ble_eq_true rfl, Nat.le_of_ble_eq_true rfl⟩ ?_
  intro v55 s55 q55
  obtain ⟨rfl, z55⟩ := q55
  rw [z55]
  clear z55
  rw [hV, zb_t ha]
  refine zw_ifeq (tgt := 75) dX5_canBeFact_58 (by decide) (fun c58 => ?_) (fun c58 => ?_)
  · exact absurd c58 (by decide)
  · refine zw_iload_n dX5_canBeFact_61 rfl ?_
    refine zw_iconst (x := 0) dX5_canBeFact_62 rfl ?_
    refine zw_bipush (x := 9) dX5_canBeFact_63 rfl ?_
    refine zw_callS (y' := zmX5_isBetween) dX5_canBeFact_65 zlX5_37 zmX5_isBetween_ok (c_X5_isBetween _ _ _) rfl rfl (Nat.le_of_ble_eq_true rfl) ⟨Nat.le_of_ble_eq_true rfl, Nat.le_of_ble_eq_true rfl⟩ ⟨Nat.le_of_ble_eq_true rfl, Nat.le_of_ble_eq_true rfl⟩ ?_
    intro v65 s65 q65
    obtain ⟨rfl, z65⟩ := q65
    rw [z65]
    clear z65
    rw [zb_t hb]
    refine zw_ifeq (tgt := 75) dX5_canBeFact_68 (by decide) (fun c68 => ?_) (fun c68 => ?_)
    · exact absurd c68 (by decide)
    · refine zw_iconst (x := 1) dX5_canBeFact_71 rfl ?_
      refine zw_goto (tgt := 76) dX5_canBeFact_72 (by decide) ?_
      refine zw_iret dX5_canBeFact_76 rfl rfl ?_
      exact ⟨rfl, rfl⟩
set_option maxHeartbeats 4000000 in
set_option maxRecDepth 100000 in
theorem c_X5_canBeFact_3 {l : Launch} {σ : zS} (h : xSh σ) {n : Nat} (hn : xFz σ = nI n) {a : Int32} (ha : 0 ≤ a ∧ a < nI n) : zAM l zmX5_canBeFact 2 43 0 0 [.ref 1, .int 3, .int a, .int 0] σ (fun v σ' => v = some (.int 1) ∧ σ' = σ) := by
  refine zAM.of (by decide +kernel) (Nat.le_of_ble_eq_true rfl) ?_
  refine zw_iload_n dX5_canBeFact_0 rfl ?_
  refine zw_tableIn (off := 76) (tgt := 77) dX5_canBeFact_1 (by decide) (by decide) (by decide) (by decide) ?_
  refine zw_aload_n dX5_canBeFact_77 rfl ?_
  refine zw_getR dX5_canBeFact_78 zfX5_26 rfl (xk_1 h) (by decide) (xg_5_2 h) ?_
  refine zw_iload_n dX5_canBeFact_81 rfl ?_
  refine zw_callV (y' := zmX0_hasFact) dX5_canBeFact_82 zlX5_191 zmX0_hasFact_ok (xk_17 h) (by decide) rfl (c_X0_hasFact h _) rfl rfl (Nat.le_of_ble_eq_true rfl) ⟨Nat.le_of_ble_eq_true rfl, Nat.le_of_ble_eq_true rfl⟩ ⟨Nat.le_of_ble_eq_true rfl, Nat.le_of_ble_eq_true rfl⟩ ?_
  intro v82 s82 q82
  obtain ⟨rfl, z82⟩ := q82
  rw [z82]
  clear z82
  rw [hn, zb_t ha]
  refine zw_ifeq (tgt := 96) dX5_canBeFact_85 (by decide) (fun c85 => ?_) (fun c85 => ?_)
  · exact absurd c85 (by decide)
  · refine zw_iload_n dX5_canBeFact_88 rfl ?_
    refine zw_ifne (tgt := 96) dX5_canBeFact_89 (by decide) (fun c89 => ?_) (fun c89 => ?_)
    · exact absurd rfl c89
    · refine zw_iconst (x := 1) dX5_canBeFact_92 rfl ?_
      refine zw_goto (tgt := 97) dX5_canBeFact_93 (by decide) ?_
      refine zw_iret dX5_canBeFact_97 rfl rfl ?_
      exact ⟨rfl, rfl⟩
set_option maxHeartbeats 4000000 in
set_option maxRecDepth 100000 in
theorem c_X5_canBeFact_4 {l : Launch} {σ : zS} (h : xSh σ) {n : Nat} (hn : xFz σ = nI n) {a b : Int32} (ha : 0 ≤ a ∧ a < nI n) (hb : 0 ≤ b ∧ b < nI n) : zAM l zmX5_canBeFact 2 43 0 0 [.ref 1, .int 4, .int a, .int b] σ (fun v σ' => v = some (.int 1) ∧ σ' = σ) := by
  refine zAM.of (by decide +kernel) (Nat.le_of_ble_eq_true rfl) ?_
  refine zw_iload_n dX5_canBeFact_0 rfl ?_
  refine zw_tableIn (off := 97) (tgt := 98) dX5_canBeFact_1 (by decide) (by decide) (by decide) (by decide) ?_
  refine zw_aload_n dX5_canBeFact_98 rfl ?_
  refine zw_getR dX5_canBeFact_99 zfX5_26 rfl (xk_1 h) (by decide) (xg_5_2 h) ?_
  refine zw_iload_n dX5_canBeFact_102 rfl ?_
  refine zw_callV (y' := zmX0_hasFact) dX5_canBeFact_103 zlX5_191 zmX0_hasFact_ok (xk_17 h) (by decide) rfl (c_X0_hasFact h _) rfl rfl (Nat.le_of_ble_eq_true rfl) ⟨Nat.le_of_ble_eq_true rfl, Nat.le_of_ble_eq_true rfl⟩ ⟨Nat.le_of_ble_eq_true rfl, Nat.le_of_ble_eq_true rfl⟩ ?_
  intro v103 s103 q103
  obtain ⟨rfl, z103⟩ := q103
  rw [z103]
  clear z103
  rw [hn, zb_t ha]
  refine zw_ifeq (tgt := 124) dX5_canBeFact_106 (by decide) (fun c106 => ?_) (fun c106 => ?_)
  · exact absurd c106 (by decide)
  · refine zw_aload_n dX5_canBeFact_109 rfl ?_
    refine zw_getR dX5_canBeFact_110 zfX5_26 rfl (xk_1 h) (by decide) (xg_5_2 h) ?_
    refine zw_iload_n dX5_canBeFact_113 rfl ?_
    refine zw_callV (y' := zmX0_hasFact) dX5_canBeFact_114 zlX5_191 zmX0_hasFact_ok (xk_17 h) (by decide) rfl (c_X0_hasFact h _) rfl rfl (Nat.le_of_ble_eq_true rfl) ⟨Nat.le_of_ble_eq_true rfl, Nat.le_of_ble_eq_true rfl⟩ ⟨Nat.le_of_ble_eq_true rfl, Nat.le_of_ble_eq_true rfl⟩ ?_
    intro v114 s114 q114
    obtain ⟨rfl, z114⟩ := q114
    rw [z114]
    clear z114
    rw [hn, zb_t hb]
    refine zw_ifeq (tgt := 124) dX5_canBeFact_117 (by decide) (fun c117 => ?_) (fun c117 => ?_)
    · exact absurd c117 (by decide)
    · refine zw_iconst (x := 1) dX5_canBeFact_120 rfl ?_
      refine zw_goto (tgt := 125) dX5_canBeFact_121 (by decide) ?_
      refine zw_iret dX5_canBeFact_125 rfl rfl ?_
      exact ⟨rfl, rfl⟩
set_option maxHeartbeats 4000000 in
set_option maxRecDepth 100000 in
theorem c_X5_canBeFact_5 {l : Launch} {σ : zS} (h : xSh σ) {n : Nat} (hn : xFz σ = nI n) {a b : Int32} (ha : 0 ≤ a ∧ a < nI n) (hb : 0 ≤ b ∧ b < nI n) : zAM l zmX5_canBeFact 2 43 0 0 [.ref 1, .int 5, .int a, .int b] σ (fun v σ' => v = some (.int 1) ∧ σ' = σ) := by
  refine zAM.of (by decide +kernel) (Nat.le_of_ble_eq_true rfl) ?_
  refine zw_iload_n dX5_canBeFact_0 rfl ?_
  refine zw_tableIn (off := 97) (tgt := 98) dX5_canBeFact_1 (by decide) (by decide) (by decide) (by decide) ?_
  refine zw_aload_n dX5_canBeFact_98 rfl ?_
  refine zw_getR dX5_canBeFact_99 zfX5_26 rfl (xk_1 h) (by decide) (xg_5_2 h) ?_
  refine zw_iload_n dX5_canBeFact_102 rfl ?_
  refine zw_callV (y' := zmX0_hasFact) dX5_canBeFact_103 zlX5_191 zmX0_hasFact_ok (xk_17 h) (by decide) rfl (c_X0_hasFact h _) rfl rfl (Nat.le_of_ble_eq_true rfl) ⟨Nat.le_of_ble_eq_true rfl, Nat.le_of_ble_eq_true rfl⟩ ⟨Nat.le_of_ble_eq_true rfl, Nat.le_of_ble_eq_true rfl⟩ ?_
  intro v103 s103 q103
  obtain ⟨rfl, z103⟩ := q103
  rw [z103]
  clear z103
  rw [hn, zb_t ha]
  refine zw_ifeq (tgt := 124) dX5_canBeFact_106 (by decide) (fun c106 => ?_) (fun c106 => ?_)
  · exact absurd c106 (by decide)
  · refine zw_aload_n dX5_canBeFact_109 rfl ?_
    refine zw_getR dX5_canBeFact_110 zfX5_26 rfl (xk_1 h) (by decide) (xg_5_2 h) ?_
    refine zw_iload_n dX5_canBeFact_113 rfl ?_
    refine zw_callV (y' := zmX0_hasFact) dX5_canBeFact_114 zlX5_191 zmX0_hasFact_ok (xk_17 h) (by decide) rfl (c_X0_hasFact h _) rfl rfl (Nat.le_of_ble_eq_true rfl) ⟨Nat.le_of_ble_eq_true rfl, Nat.le_of_ble_eq_true rfl⟩ ⟨Nat.le_of_ble_eq_true rfl, Nat.le_of_ble_eq_true rfl⟩ ?_
    intro v114 s114 q114
    obtain ⟨rfl, z114⟩ := q114
    rw [z114]
    clear z114
    rw [hn, zb_t hb]
    refine zw_ifeq (tgt := 124) dX5_canBeFact_117 (by decide) (fun c117 => ?_) (fun c117 => ?_)
    · exact absurd c117 (by decide)
    · refine zw_iconst (x := 1) dX5_canBeFact_120 rfl ?_
      refine zw_goto (tgt := 125) dX5_canBeFact_121 (by decide) ?_
      refine zw_iret dX5_canBeFact_125 rfl rfl ?_
      exact ⟨rfl, rfl⟩
/-- the parents upwards, d of them -/
def xUp (par : Nat → Nat) : Nat → Nat → Nat
  | 0, s => s
  | d + 1, s => xUp par d (par s)
set_option maxHeartbeats 4000000 in
set_option maxRecDepth 100000 in
theorem lp_up {l : Launch} {σ : zS} (h : xSh σ) {n e : Nat} (hn : n ≤ 400) (he : e ≤ 500) {par : Nat → Nat} (hp : ∀ t, t < n → zI σ 11 t = nI (par t) ∧ par t < n) : ∀ (d s : Nat), d ≤ 500 → s < n → zAW l zmX3_onTheWay { frames := 0, cells := 0, slots := 0, locals := 0 } 10 [(0, .ref 8), (2, .int (nI e)), (3, .int (nI s)), (4, .int (nI (e + d)))] [] σ 0 0 (fun v σ' => v = some (.int (nI (xUp par d s))) ∧ σ' = σ) := by
  intro d
  induction d with
  | zero =>
    intro s hd hs
    refine zw_iload dX3_onTheWay_10 rfl ?_
    refine zw_iload_n dX3_onTheWay_12 rfl ?_
    refine zw_icmple (tgt := 29) dX3_onTheWay_13 (by decide) (fun c13 => ?_) (fun c13 => ?_)
    · refine zw_iload_n dX3_onTheWay_29 rfl ?_
      refine zw_iret dX3_onTheWay_30 rfl rfl ?_
      exact ⟨rfl, rfl⟩
    · exact absurd (Int32.le_refl _) c13
  | succ d ih =>
    intro s hd hs
    obtain ⟨p1, p2⟩ := hp s hs
    refine zw_iload dX3_onTheWay_10 rfl ?_
    refine zw_iload_n dX3_onTheWay_12 rfl ?_
    refine zw_icmple (tgt := 29) dX3_onTheWay_13 (by decide) (fun c13 => ?_) (fun c13 => ?_)
    · exact absurd c13 (nI_ge (by omega) (by omega))
    · refine zw_aload_n dX3_onTheWay_16 rfl ?_
      refine zw_getR dX3_onTheWay_17 zfX3_18 rfl (xk_8 h) (by decide) (xg_3_2 h) ?_
      refine zw_iload_n dX3_onTheWay_20 rfl ?_
      refine zw_iaload dX3_onTheWay_21 (xk_11 h) (zin_of (xl_11 h) (vp_in_nI (by omega) (by omega))) ?_
      rw [nI_clamp (show s < 2 ^ 31 by omega), p1]
      refine zw_istore_n dX3_onTheWay_22 (by decide) rfl ?_
      refine zw_iinc dX3_onTheWay_23 rfl (by decide) rfl ?_
      refine zw_goto (tgt := 10) dX3_onTheWay_26 (by decide) ?_
      refine zw_loc (lc' := [(0, .ref 8), (2, .int (nI e)), (3, .int (nI (par s))), (4, .int (nI (e + (d + 1)) + Int32.ofInt (-1)))]) (zsub_cons rfl (zsub_cons rfl (zsub_cons rfl (zsub_cons rfl zsub_nil)))) ?_
      rw [← Nat.add_assoc, nI_dec]
      exact ih (par s) (by omega) p2
set_option maxHeartbeats 4000000 in
set_option maxRecDepth 100000 in
theorem c_X3_onTheWay {l : Launch} {σ : zS} (h : xSh σ) {n e d s : Nat} (hn : n ≤ 400) (he : e ≤ 500) (hd : d ≤ 500) {par : Nat → Nat} (hp : ∀ t, t < n → zI σ 11 t = nI (par t) ∧ par t < n) (hs : s < n) (hD : zI σ 10 s = nI (e + d)) : zAM l zmX3_onTheWay 0 0 0 0 [.ref 8, .int (nI s), .int (nI e)] σ (fun v σ' => v = some (.int (nI (xUp par d s))) ∧ σ' = σ) := by
  refine zAM.of (by decide +kernel) (Nat.le_of_ble_eq_true rfl) ?_
  refine zw_iload_n dX3_onTheWay_0 rfl ?_
  refine zw_istore_n dX3_onTheWay_1 (by decide) rfl ?_
  refine zw_aload_n dX3_onTheWay_2 rfl ?_
  refine zw_getR dX3_onTheWay_3 zfX3_15 rfl (xk_8 h) (by decide) (xg_3_1 h) ?_
  refine zw_iload_n dX3_onTheWay_6 rfl ?_
  refine zw_iaload dX3_onTheWay_7 (xk_10 h) (zin_of (xl_10 h) (vp_in_nI (by omega) (by omega))) ?_
  rw [nI_clamp (show s < 2 ^ 31 by omega), hD]
  refine zw_istore dX3_onTheWay_8 (by decide) rfl ?_
  refine zw_loc (lc' := [(0, .ref 8), (2, .int (nI e)), (3, .int (nI s)), (4, .int (nI (e + d)))]) (zsub_cons rfl (zsub_cons rfl (zsub_cons rfl (zsub_cons rfl zsub_nil)))) ?_
  exact lp_up h hn he hp d s hd hs
set_option maxHeartbeats 4000000 in
set_option maxRecDepth 100000 in
theorem c_X5_way_0 {l : Launch} {σ : zS} (h : xSh σ) {n s : Nat} (hS : xS σ = nI n) (hn : n ≤ 400) (hs : s < n) {k d : Nat} {par : Nat → Nat} (hp : ∀ t, t < n → zI σ 11 t = nI (par t) ∧ par t < n) (hD : zI σ 10 s = nI (k + 1 + d)) (hk : k ≤ 400) (hd : d ≤ 400) (hu : xUp par d s < n) : zAM l zmX5_way 1 30 0 0 [.ref 1, .int (nI s), .int (nI k), .int 0] σ (fun v σ' => v = some (.int (zI σ 11 (xUp par d s))) ∧ σ' = σ) := by
  refine zAM.of (by decide +kernel) (Nat.le_of_ble_eq_true rfl) ?_
  have hss : 0 ≤ nI s ∧ nI s < nI n := ⟨nI_pos' (by omega), nI_lt hs (by omega)⟩
  refine zw_aload_n dX5_way_0 rfl ?_
  refine zw_getR dX5_way_1 zfX5_19 rfl (xk_1 h) (by decide) (xg_5_1 h) ?_
  refine zw_iload_n dX5_way_4 rfl ?_
  refine zw_callV (y' := zmX3_hasState) dX5_way_5 zlX5_146 zmX3_hasState_ok (xk_8 h) (by decide) rfl (c_X3_hasState h _) rfl rfl (Nat.le_of_ble_eq_true rfl) ⟨Nat.le_of_ble_eq_true rfl, Nat.le_of_ble_eq_true rfl⟩ ⟨Nat.le_of_ble_eq_true rfl, Nat.le_of_ble_eq_true rfl⟩ ?_
  intro v5 s5 q5
  obtain ⟨rfl, z5⟩ := q5
  rw [z5]
  clear z5
  rw [hS, zb_t hss]
  refine zw_ifne (tgt := 21) dX5_way_8 (by decide) (fun c8 => ?_) (fun c8 => ?_)
  · refine zw_iload_n dX5_way_21 rfl ?_
    refine zw_iconst (x := 0) dX5_way_22 rfl ?_
    refine zw_sipush (x := 400) dX5_way_23 rfl ?_
    refine zw_callS (y' := zmX5_isBetween) dX5_way_26 zlX5_37 zmX5_isBetween_ok (c_X5_isBetween _ _ _) rfl rfl (Nat.le_of_ble_eq_true rfl) ⟨Nat.le_of_ble_eq_true rfl, Nat.le_of_ble_eq_true rfl⟩ ⟨Nat.le_of_ble_eq_true rfl, Nat.le_of_ble_eq_true rfl⟩ ?_
    intro v26 s26 q26
    obtain ⟨rfl, z26⟩ := q26
    rw [z26]
    clear z26
    rw [zb_t (show 0 ≤ nI k ∧ nI k ≤ 400 from ⟨nI_pos' (by omega), nI_le (b := 400) hk (by decide)⟩)]
    refine zw_ifne (tgt := 42) dX5_way_29 (by decide) (fun c29 => ?_) (fun c29 => ?_)
    · refine zw_iload_n dX5_way_42 rfl ?_
      refine zw_iconst (x := 0) dX5_way_43 rfl ?_
      refine zw_iconst (x := 1) dX5_way_44 rfl ?_
      refine zw_callS (y' := zmX5_isBetween) dX5_way_45 zlX5_37 zmX5_isBetween_ok (c_X5_isBetween _ _ _) rfl rfl (Nat.le_of_ble_eq_true rfl) ⟨Nat.le_of_ble_eq_true rfl, Nat.le_of_ble_eq_true rfl⟩ ⟨Nat.le_of_ble_eq_true rfl, Nat.le_of_ble_eq_true rfl⟩ ?_
      intro v45 s45 q45
      obtain ⟨rfl, z45⟩ := q45
      rw [z45]
      clear z45
      rw [zb_t (show (0 : Int32) ≤ 0 ∧ (0 : Int32) ≤ 1 by decide)]
      refine zw_ifne (tgt := 61) dX5_way_48 (by decide) (fun c48 => ?_) (fun c48 => ?_)
      · refine zw_iload_n dX5_way_61 rfl ?_
        refine zw_aload_n dX5_way_62 rfl ?_
        refine zw_getR dX5_way_63 zfX5_19 rfl (xk_1 h) (by decide) (xg_5_1 h) ?_
        refine zw_iload_n dX5_way_66 rfl ?_
        refine zw_callV (y' := zmX3_depthOf) dX5_way_67 zlX5_154 zmX3_depthOf_ok (xk_8 h) (by decide) rfl (c_X3_depthOf h (show s < 400 by omega)) rfl rfl (Nat.le_of_ble_eq_true rfl) ⟨Nat.le_of_ble_eq_true rfl, Nat.le_of_ble_eq_true rfl⟩ ⟨Nat.le_of_ble_eq_true rfl, Nat.le_of_ble_eq_true rfl⟩ ?_
        intro v67 s67 q67
        obtain ⟨rfl, z67⟩ := q67
        rw [z67]
        clear z67
        rw [hD]
        refine zw_icmplt (tgt := 75) dX5_way_70 (by decide) (fun c70 => ?_) (fun c70 => ?_)
        · refine zw_aload_n dX5_way_75 rfl ?_
          refine zw_getR dX5_way_76 zfX5_19 rfl (xk_1 h) (by decide) (xg_5_1 h) ?_
          refine zw_iload_n dX5_way_79 rfl ?_
          refine zw_iload_n dX5_way_80 rfl ?_
          refine zw_iconst (x := 1) dX5_way_81 rfl ?_
          refine zw_iadd dX5_way_82 ?_
          rw [nI_1]
          refine zw_callV (y' := zmX3_onTheWay) dX5_way_83 zlX5_228 zmX3_onTheWay_ok (xk_8 h) (by decide) rfl (c_X3_onTheWay h hn (show k + 1 ≤ 500 by omega) (show d ≤ 500 by omega) hp hs hD) rfl rfl (Nat.le_of_ble_eq_true rfl) ⟨Nat.le_of_ble_eq_true rfl, Nat.le_of_ble_eq_true rfl⟩ ⟨Nat.le_of_ble_eq_true rfl, Nat.le_of_ble_eq_true rfl⟩ ?_
          intro v83 s83 q83
          obtain ⟨rfl, z83⟩ := q83
          rw [z83]
          clear z83
          refine zw_istore dX5_way_86 (by decide) rfl ?_
          refine zw_iload_n dX5_way_88 rfl ?_
          refine zw_ifne (tgt := 104) dX5_way_89 (by decide) (fun c89 => ?_) (fun c89 => ?_)
          · exact absurd rfl c89
          · refine zw_aload_n dX5_way_92 rfl ?_
            refine zw_getR dX5_way_93 zfX5_19 rfl (xk_1 h) (by decide) (xg_5_1 h) ?_
            refine zw_iload dX5_way_96 rfl ?_
            refine zw_callV (y' := zmX3_parentOf) dX5_way_98 zlX5_231 zmX3_parentOf_ok (xk_8 h) (by decide) rfl (c_X3_parentOf h (show xUp par d s < 400 by omega)) rfl rfl (Nat.le_of_ble_eq_true rfl) ⟨Nat.le_of_ble_eq_true rfl, Nat.le_of_ble_eq_true rfl⟩ ⟨Nat.le_of_ble_eq_true rfl, Nat.le_of_ble_eq_true rfl⟩ ?_
            intro v98 s98 q98
            obtain ⟨rfl, z98⟩ := q98
            rw [z98]
            clear z98
            refine zw_goto (tgt := 113) dX5_way_101 (by decide) ?_
            refine zw_iret dX5_way_113 rfl rfl ?_
            exact ⟨rfl, rfl⟩
        · exact absurd (nI_lt (show k < k + 1 + d by omega) (by omega)) c70
      · exact absurd c48 (by decide)
    · exact absurd c29 (by decide)
  · exact absurd c8 (by decide)
set_option maxHeartbeats 4000000 in
set_option maxRecDepth 100000 in
theorem c_X5_way_1 {l : Launch} {σ : zS} (h : xSh σ) {n s : Nat} (hS : xS σ = nI n) (hn : n ≤ 400) (hs : s < n) {k d : Nat} {par : Nat → Nat} (hp : ∀ t, t < n → zI σ 11 t = nI (par t) ∧ par t < n) (hD : zI σ 10 s = nI (k + 1 + d)) (hk : k ≤ 400) (hd : d ≤ 400) (hu : xUp par d s < n) : zAM l zmX5_way 1 30 0 0 [.ref 1, .int (nI s), .int (nI k), .int 1] σ (fun v σ' => v = some (.int (zI σ 12 (xUp par d s))) ∧ σ' = σ) := by
  refine zAM.of (by decide +kernel) (Nat.le_of_ble_eq_true rfl) ?_
  have hss : 0 ≤ nI s ∧ nI s < nI n := ⟨nI_pos' (by omega), nI_lt hs (by omega)⟩
  refine zw_aload_n dX5_way_0 rfl ?_
  refine zw_getR dX5_way_1 zfX5_19 rfl (xk_1 h) (by decide) (xg_5_1 h) ?_
  refine zw_iload_n dX5_way_4 rfl ?_
  refine zw_callV (y' := zmX3_hasState) dX5_way_5 zlX5_146 zmX3_hasState_ok (xk_8 h) (by decide) rfl (c_X3_hasState h _) rfl rfl (Nat.le_of_ble_eq_true rfl) ⟨Nat.le_of_ble_eq_true rfl, Nat.le_of_ble_eq_true rfl⟩ ⟨Nat.le_of_ble_eq_true rfl, Nat.le_of_ble_eq_true rfl⟩ ?_
  intro v5 s5 q5
  obtain ⟨rfl, z5⟩ := q5
  rw [z5]
  clear z5
  rw [hS, zb_t hss]
  refine zw_ifne (tgt := 21) dX5_way_8 (by decide) (fun c8 => ?_) (fun c8 => ?_)
  · refine zw_iload_n dX5_way_21 rfl ?_
    refine zw_iconst (x := 0) dX5_way_22 rfl ?_
    refine zw_sipush (x := 400) dX5_way_23 rfl ?_
    refine zw_callS (y' := zmX5_isBetween) dX5_way_26 zlX5_37 zmX5_isBetween_ok (c_X5_isBetween _ _ _) rfl rfl (Nat.le_of_ble_eq_true rfl) ⟨Nat.le_of_ble_eq_true rfl, Nat.le_of_ble_eq_true rfl⟩ ⟨Nat.le_of_ble_eq_true rfl, Nat.le_of_ble_eq_true rfl⟩ ?_
    intro v26 s26 q26
    obtain ⟨rfl, z26⟩ := q26
    rw [z26]
    clear z26
    rw [zb_t (show 0 ≤ nI k ∧ nI k ≤ 400 from ⟨nI_pos' (by omega), nI_le (b := 400) hk (by decide)⟩)]
    refine zw_ifne (tgt := 42) dX5_way_29 (by decide) (fun c29 => ?_) (fun c29 => ?_)
    · refine zw_iload_n dX5_way_42 rfl ?_
      refine zw_iconst (x := 0) dX5_way_43 rfl ?_
      refine zw_iconst (x := 1) dX5_way_44 rfl ?_
      refine zw_callS (y' := zmX5_isBetween) dX5_way_45 zlX5_37 zmX5_isBetween_ok (c_X5_isBetween _ _ _) rfl rfl (Nat.le_of_ble_eq_true rfl) ⟨Nat.le_of_ble_eq_true rfl, Nat.le_of_ble_eq_true rfl⟩ ⟨Nat.le_of_ble_eq_true rfl, Nat.le_of_ble_eq_true rfl⟩ ?_
      intro v45 s45 q45
      obtain ⟨rfl, z45⟩ := q45
      rw [z45]
      clear z45
      rw [zb_t (show (0 : Int32) ≤ 1 ∧ (1 : Int32) ≤ 1 by decide)]
      refine zw_ifne (tgt := 61) dX5_way_48 (by decide) (fun c48 => ?_) (fun c48 => ?_)
      · refine zw_iload_n dX5_way_61 rfl ?_
        refine zw_aload_n dX5_way_62 rfl ?_
        refine zw_getR dX5_way_63 zfX5_19 rfl (xk_1 h) (by decide) (xg_5_1 h) ?_
        refine zw_iload_n dX5_way_66 rfl ?_
        refine zw_callV (y' := zmX3_depthOf) dX5_way_67 zlX5_154 zmX3_depthOf_ok (xk_8 h) (by decide) rfl (c_X3_depthOf h (show s < 400 by omega)) rfl rfl (Nat.le_of_ble_eq_true rfl) ⟨Nat.le_of_ble_eq_true rfl, Nat.le_of_ble_eq_true rfl⟩ ⟨Nat.le_of_ble_eq_true rfl, Nat.le_of_ble_eq_true rfl⟩ ?_
        intro v67 s67 q67
        obtain ⟨rfl, z67⟩ := q67
        rw [z67]
        clear z67
        rw [hD]
        refine zw_icmplt (tgt := 75) dX5_way_70 (by decide) (fun c70 => ?_) (fun c70 => ?_)
        · refine zw_aload_n dX5_way_75 rfl ?_
          refine zw_getR dX5_way_76 zfX5_19 rfl (xk_1 h) (by decide) (xg_5_1 h) ?_
          refine zw_iload_n dX5_way_79 rfl ?_
          refine zw_iload_n dX5_way_80 rfl ?_
          refine zw_iconst (x := 1) dX5_way_81 rfl ?_
          refine zw_iadd dX5_way_82 ?_
          rw [nI_1]
          refine zw_callV (y' := zmX3_onTheWay) dX5_way_83 zlX5_228 zmX3_onTheWay_ok (xk_8 h) (by decide) rfl (c_X3_onTheWay h hn (show k + 1 ≤ 500 by omega) (show d ≤ 500 by omega) hp hs hD) rfl rfl (Nat.le_of_ble_eq_true rfl) ⟨Nat.le_of_ble_eq_true rfl, Nat.le_of_ble_eq_true rfl⟩ ⟨Nat.le_of_ble_eq_true rfl, Nat.le_of_ble_eq_true rfl⟩ ?_
          intro v83 s83 q83
          obtain ⟨rfl, z83⟩ := q83
          rw [z83]
          clear z83
          refine zw_istore dX5_way_86 (by decide) rfl ?_
          refine zw_iload_n dX5_way_88 rfl ?_
          refine zw_ifne (tgt := 104) dX5_way_89 (by decide) (fun c89 => ?_) (fun c89 => ?_)
          · refine zw_aload_n dX5_way_104 rfl ?_
            refine zw_getR dX5_way_105 zfX5_19 rfl (xk_1 h) (by decide) (xg_5_1 h) ?_
            refine zw_iload dX5_way_108 rfl ?_
            refine zw_callV (y' := zmX3_parentStepOf) dX5_way_110 zlX5_234 zmX3_parentStepOf_ok (xk_8 h) (by decide) rfl (c_X3_parentStepOf h (show xUp par d s < 400 by omega)) rfl rfl (Nat.le_of_ble_eq_true rfl) ⟨Nat.le_of_ble_eq_true rfl, Nat.le_of_ble_eq_true rfl⟩ ⟨Nat.le_of_ble_eq_true rfl, Nat.le_of_ble_eq_true rfl⟩ ?_
            intro v110 s110 q110
            obtain ⟨rfl, z110⟩ := q110
            rw [z110]
            clear z110
            refine zw_iret dX5_way_113 rfl rfl ?_
            exact ⟨rfl, rfl⟩
          · exact absurd c89 (by decide)
        · exact absurd (nI_lt (show k < k + 1 + d by omega) (by omega)) c70
      · exact absurd c48 (by decide)
    · exact absurd c29 (by decide)
  · exact absurd c8 (by decide)
