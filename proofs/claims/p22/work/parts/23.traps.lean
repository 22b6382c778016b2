/-! Traps: short methods -/
def xEnt (σ : zS) (s en pl wl : Nat) : zS := zsI (zsF (zsI (zsF (zsI (zsI (zsI (zsI (zsF σ 4 10 21 (nI (en + 1))) 25 s (nI (en + 1))) 26 s (nI (en + 1))) 27 s 0) 28 pl (nI s)) 4 8 21 (nI (pl + 1))) 29 wl (nI s)) 4 9 21 (nI (wl + 1))) 23 s 1
theorem nI_min {a b : Nat} (ha : a < 2 ^ 31) (hb : b < 2 ^ 31) : (if nI b < nI a then nI b else nI a) = nI (min a b) := by
  by_cases h : b < a
  · rw [if_pos (nI_lt h ha), Nat.min_eq_right (by omega)]
  · rw [if_neg (nI_nlt (by omega) hb), Nat.min_eq_left (by omega)]
theorem nI_min' {a b : Nat} (ha : a < 2 ^ 31) (hb : b < 2 ^ 31) : (if nI a < nI b then nI a else nI b) = nI (min a b) := by
  by_cases h : a < b
  · rw [if_pos (nI_lt h hb), Nat.min_eq_left (by omega)]
  · rw [if_neg (nI_nlt (by omega) ha), Nat.min_eq_right (by omega)]
set_option maxHeartbeats 4000000 in
set_option maxRecDepth 100000 in
theorem c_X4_enter {l : Launch} {σ : zS} (h : xSh σ) {s en pl wl : Nat} (hen : zF σ 4 10 21 = nI en) (hpl : zF σ 4 8 21 = nI pl) (hwl : zF σ 4 9 21 = nI wl) (hp : pl < 400) (hw : wl < 400) (hs : s < 400) : zAM l zmX4_enter 0 0 0 0 [.ref 21, .int (nI s)] σ (fun v σ' => v = none ∧ σ' = xEnt σ s en pl wl) := by
  refine zAM.of (by decide +kernel) (Nat.le_of_ble_eq_true rfl) ?_
  refine zw_aload_n dX4_enter_0 rfl ?_
  refine zw_dup dX4_enter_1 rfl ?_
  refine zw_getI dX4_enter_2 zfX4_70 rfl (xk_21 h) (by decide) ?_
  refine zw_iconst (x := 1) dX4_enter_5 rfl ?_
  refine zw_iadd dX4_enter_6 ?_
  refine zw_putI dX4_enter_7 zfX4_70 rfl rfl ⟨rfl, rfl⟩ (xk_21 h) (by decide) ?_
  refine zw_aload_n dX4_enter_10 rfl ?_
  refine zw_getR dX4_enter_11 zfX4_21 rfl (xk_21 h) (by decide) (xg_4_3 h) ?_
  refine zw_iload_n dX4_enter_14 rfl ?_
  refine zw_aload_n dX4_enter_15 rfl ?_
  refine zw_getI dX4_enter_16 zfX4_70 rfl (xk_21 h) (by decide) ?_
  refine zw_iastore dX4_enter_19 (xk_25 h) (by decide) (zin_of (xl_25 h) (vp_in_nI (by omega) (by omega))) ?_
  refine zw_aload_n dX4_enter_20 rfl ?_
  refine zw_getR dX4_enter_21 zfX4_25 rfl (xk_21 h) (by decide) (xg_4_4 h) ?_
  refine zw_iload_n dX4_enter_24 rfl ?_
  refine zw_aload_n dX4_enter_25 rfl ?_
  refine zw_getI dX4_enter_26 zfX4_70 rfl (xk_21 h) (by decide) ?_
  refine zw_iastore dX4_enter_29 (xk_26 h) (by decide) (zin_of (xl_26 h) (vp_in_nI (by omega) (by omega))) ?_
  refine zw_aload_n dX4_enter_30 rfl ?_
  refine zw_getR dX4_enter_31 zfX4_28 rfl (xk_21 h) (by decide) (xg_4_5 h) ?_
  refine zw_iload_n dX4_enter_34 rfl ?_
  refine zw_iconst (x := 0) dX4_enter_35 rfl ?_
  refine zw_iastore dX4_enter_36 (xk_27 h) (by decide) (zin_of (xl_27 h) (vp_in_nI (by omega) (by omega))) ?_
  refine zw_aload_n dX4_enter_37 rfl ?_
  refine zw_getR dX4_enter_38 zfX4_31 rfl (xk_21 h) (by decide) (xg_4_6 h) ?_
  refine zw_aload_n dX4_enter_41 rfl ?_
  refine zw_getI dX4_enter_42 zfX4_64 rfl (xk_21 h) (by decide) ?_
  refine zw_iload_n dX4_enter_45 rfl ?_
  refine zw_iastore dX4_enter_46 (xk_28 h) (by decide) (zin_of (xl_28 h) (by simp only [zF_zsI, zF_zsF, zI_zsF, zI_zsI, reduceIte, and_true, true_and, and_false, false_and, and_self, Nat.reduceEqDiff, hpl]; exact vp_in_nI (by omega) (by omega))) ?_
  refine zw_aload_n dX4_enter_47 rfl ?_
  refine zw_dup dX4_enter_48 rfl ?_
  refine zw_getI dX4_enter_49 zfX4_64 rfl (xk_21 h) (by decide) ?_
  refine zw_iconst (x := 1) dX4_enter_52 rfl ?_
  refine zw_iadd dX4_enter_53 ?_
  refine zw_putI dX4_enter_54 zfX4_64 rfl rfl ⟨rfl, rfl⟩ (xk_21 h) (by decide) ?_
  refine zw_aload_n dX4_enter_57 rfl ?_
  refine zw_getR dX4_enter_58 zfX4_34 rfl (xk_21 h) (by decide) (xg_4_7 h) ?_
  refine zw_aload_n dX4_enter_61 rfl ?_
  refine zw_getI dX4_enter_62 zfX4_67 rfl (xk_21 h) (by decide) ?_
  refine zw_iload_n dX4_enter_65 rfl ?_
  refine zw_iastore dX4_enter_66 (xk_29 h) (by decide) (zin_of (xl_29 h) (by simp only [zF_zsI, zF_zsF, zI_zsF, zI_zsI, reduceIte, and_true, true_and, and_false, false_and, and_self, Nat.reduceEqDiff, hwl]; exact vp_in_nI (by omega) (by omega))) ?_
  refine zw_aload_n dX4_enter_67 rfl ?_
  refine zw_dup dX4_enter_68 rfl ?_
  refine zw_getI dX4_enter_69 zfX4_67 rfl (xk_21 h) (by decide) ?_
  refine zw_iconst (x := 1) dX4_enter_72 rfl ?_
  refine zw_iadd dX4_enter_73 ?_
  refine zw_putI dX4_enter_74 zfX4_67 rfl rfl ⟨rfl, rfl⟩ (xk_21 h) (by decide) ?_
  refine zw_aload_n dX4_enter_77 rfl ?_
  refine zw_getR dX4_enter_78 zfX4_15 rfl (xk_21 h) (by decide) (xg_4_1 h) ?_
  refine zw_iload_n dX4_enter_81 rfl ?_
  refine zw_iconst (x := 1) dX4_enter_82 rfl ?_
  refine zw_bastore dX4_enter_83 (xk_23 h) rfl (zin_of (xl_23 h) (vp_in_nI (by omega) (by omega))) ?_
  refine zw_vret dX4_enter_84 rfl ?_
  refine ⟨rfl, ?_⟩
  simp only [zF_zsI, zF_zsF, zI_zsF, zI_zsI, reduceIte, and_true, true_and, and_false, false_and, and_self, Nat.reduceEqDiff, hen, hpl, hwl, nI_1, nI_clamp (show s < 2 ^ 31 by omega), nI_clamp (show pl < 2 ^ 31 by omega), nI_clamp (show wl < 2 ^ 31 by omega)]
  rfl
set_option maxHeartbeats 4000000 in
set_option maxRecDepth 100000 in
theorem c_X4_follow {l : Launch} {σ : zS} (h : xSh σ) {en pl wl : Nat} (hen : zF σ 4 10 21 = nI en) (hpl : zF σ 4 8 21 = nI pl) (hwl : zF σ 4 9 21 = nI wl) {v t ot lv : Nat} {wt wa : Bool} (hv : v < 400) (ht : t < 400) (hwt : zI σ 22 t = zb wt) (hwa : zI σ 23 t = zb wa) (hot : zI σ 25 t = nI ot) (hlv : zI σ 26 v = nI lv) (ho2 : ot < 2 ^ 31) (hl2 : lv < 2 ^ 31) (hpw : wt = true → ot = 0 → pl < 400 ∧ wl < 400) : zAM l zmX4_follow 1 21 0 0 [.ref 21, .int (nI v), .int (nI t)] σ (fun r σ' => r = none ∧ σ' = (if wt = false then σ else if ot = 0 then xEnt σ t en pl wl else if wa = false then σ else zsI σ 26 v (nI (min lv ot)))) := by
  refine zAM.of (by decide +kernel) (Nat.le_of_ble_eq_true rfl) ?_
  refine zw_aload_n dX4_follow_0 rfl ?_
  refine zw_getR dX4_follow_1 zfX4_9 rfl (xk_21 h) (by decide) (xg_4_0 h) ?_
  refine zw_iload_n dX4_follow_4 rfl ?_
  refine zw_baload dX4_follow_5 (xk_22 h) (zin_of (xl_22 h) (vp_in_nI (by omega) (by omega))) ?_
  refine zw_ifne (tgt := 10) dX4_follow_6 (by decide) (fun c6 => ?_) (fun c6 => ?_)
  · refine zw_aload_n dX4_follow_10 rfl ?_
    refine zw_getR dX4_follow_11 zfX4_21 rfl (xk_21 h) (by decide) (xg_4_3 h) ?_
    refine zw_iload_n dX4_follow_14 rfl ?_
    refine zw_iaload dX4_follow_15 (xk_25 h) (zin_of (xl_25 h) (vp_in_nI (by omega) (by omega))) ?_
    refine zw_ifne (tgt := 27) dX4_follow_16 (by decide) (fun c16 => ?_) (fun c16 => ?_)
    · refine zw_aload_n dX4_follow_27 rfl ?_
      refine zw_getR dX4_follow_28 zfX4_15 rfl (xk_21 h) (by decide) (xg_4_1 h) ?_
      refine zw_iload_n dX4_follow_31 rfl ?_
      refine zw_baload dX4_follow_32 (xk_23 h) (zin_of (xl_23 h) (vp_in_nI (by omega) (by omega))) ?_
      refine zw_ifeq (tgt := 57) dX4_follow_33 (by decide) (fun c33 => ?_) (fun c33 => ?_)
      · refine zw_vret dX4_follow_57 rfl ?_
        refine ⟨rfl, ?_⟩
        rw [nI_clamp (show t < 2 ^ 31 by omega), hwt] at c6
        rw [nI_clamp (show t < 2 ^ 31 by omega), hot] at c16
        rw [nI_clamp (show t < 2 ^ 31 by omega), hwa] at c33
        have b1 : ¬ wt = false := fun e => by rw [zb_1] at c6; rw [e] at c6; exact absurd c6 (by decide)
        rw [if_neg b1]
        have b2 : ¬ ot = 0 := fun e => c16 (by rw [e]; exact nI_0)
        rw [if_neg b2]
        rw [if_pos (zb_0.mp c33)]
      · refine zw_aload_n dX4_follow_36 rfl ?_
        refine zw_getR dX4_follow_37 zfX4_25 rfl (xk_21 h) (by decide) (xg_4_4 h) ?_
        refine zw_iload_n dX4_follow_40 rfl ?_
        refine zw_aload_n dX4_follow_41 rfl ?_
        refine zw_getR dX4_follow_42 zfX4_25 rfl (xk_21 h) (by decide) (xg_4_4 h) ?_
        refine zw_iload_n dX4_follow_45 rfl ?_
        refine zw_iaload dX4_follow_46 (xk_26 h) (zin_of (xl_26 h) (vp_in_nI (by omega) (by omega))) ?_
        refine zw_aload_n dX4_follow_47 rfl ?_
        refine zw_getR dX4_follow_48 zfX4_21 rfl (xk_21 h) (by decide) (xg_4_3 h) ?_
        refine zw_iload_n dX4_follow_51 rfl ?_
        refine zw_iaload dX4_follow_52 (xk_25 h) (zin_of (xl_25 h) (vp_in_nI (by omega) (by omega))) ?_
        refine zw_min dX4_follow_53 zminX4_103 ⟨Nat.le_of_ble_eq_true rfl, Nat.le_of_ble_eq_true rfl⟩ ?_
        refine zw_iastore dX4_follow_56 (xk_26 h) (by decide) (zin_of (xl_26 h) (vp_in_nI (by omega) (by omega))) ?_
        refine zw_vret dX4_follow_57 rfl ?_
        refine ⟨rfl, ?_⟩
        rw [nI_clamp (show t < 2 ^ 31 by omega), hwt] at c6
        rw [nI_clamp (show t < 2 ^ 31 by omega), hot] at c16
        rw [nI_clamp (show t < 2 ^ 31 by omega), hwa] at c33
        have b1 : ¬ wt = false := fun e => by rw [zb_1] at c6; rw [e] at c6; exact absurd c6 (by decide)
        rw [if_neg b1]
        have b2 : ¬ ot = 0 := fun e => c16 (by rw [e]; exact nI_0)
        rw [if_neg b2]
        have b3 : ¬ wa = false := fun e => by rw [zb_1] at c33; rw [e] at c33; exact absurd c33 (by decide)
        rw [if_neg b3]
        simp only [nI_clamp (show v < 2 ^ 31 by omega), nI_clamp (show t < 2 ^ 31 by omega), hlv, hot]
        first | rw [nI_min hl2 ho2] | rw [nI_min' hl2 ho2]
    · obtain ⟨hp, hw⟩ := hpw (zb_1.mp (by have := c6; rw [nI_clamp (show t < 2 ^ 31 by omega), hwt] at this; exact this)) (by
        have := c16
        rw [nI_clamp (show t < 2 ^ 31 by omega), hot, ← nI_0] at this
        exact (nI_eq ho2 (by omega)).mp this)
      refine zw_aload_n dX4_follow_19 rfl ?_
      refine zw_iload_n dX4_follow_20 rfl ?_
      refine zw_callV (y' := zmX4_enter) dX4_follow_21 zlX4_76 zmX4_enter_ok (xk_21 h) (by decide) rfl (c_X4_enter h hen hpl hwl hp hw ht) rfl rfl (Nat.le_of_ble_eq_true rfl) ⟨Nat.le_of_ble_eq_true rfl, Nat.le_of_ble_eq_true rfl⟩ ⟨Nat.le_of_ble_eq_true rfl, Nat.le_of_ble_eq_true rfl⟩ ?_
      intro v21 s21 q21
      obtain ⟨rfl, z21⟩ := q21
      rw [z21]
      clear z21
      refine zw_goto (tgt := 57) dX4_follow_24 (by decide) ?_
      refine zw_vret dX4_follow_57 rfl ?_
      refine ⟨rfl, ?_⟩
      rw [nI_clamp (show t < 2 ^ 31 by omega), hwt] at c6
      rw [nI_clamp (show t < 2 ^ 31 by omega), hot] at c16
      have b1 : ¬ wt = false := fun e => by rw [zb_1] at c6; rw [e] at c6; exact absurd c6 (by decide)
      rw [if_neg b1]
      have b2 : ot = 0 := by
        have := c16
        rw [← nI_0] at this
        exact (nI_eq ho2 (by omega)).mp this
      rw [if_pos b2]
  · refine zw_vret dX4_follow_9 rfl ?_
    refine ⟨rfl, ?_⟩
    rw [nI_clamp (show t < 2 ^ 31 by omega), hwt] at c6
    rw [if_pos (zb_0.mp (c6))]
set_option maxHeartbeats 4000000 in
set_option maxRecDepth 100000 in
theorem c_X4_leave_0 {l : Launch} {σ : zS} (h : xSh σ) {s : Nat} (hpl : zF σ 4 8 21 = nI 1) : zAM l zmX4_leave 1 21 0 0 [.ref 21, .int (nI s)] σ (fun v σ' => v = none ∧ σ' = zsF σ 4 8 21 (nI 0)) := by
  refine zAM.of (by decide +kernel) (Nat.le_of_ble_eq_true rfl) ?_
  refine zw_aload_n dX4_leave_0 rfl ?_
  refine zw_dup dX4_leave_1 rfl ?_
  refine zw_getI dX4_leave_2 zfX4_64 rfl (xk_21 h) (by decide) ?_
  refine zw_iconst (x := 1) dX4_leave_5 rfl ?_
  refine zw_isub dX4_leave_6 ?_
  refine zw_putI dX4_leave_7 zfX4_64 rfl rfl ⟨rfl, rfl⟩ (xk_21 h) (by decide) ?_
  refine zw_aload_n dX4_leave_10 rfl ?_
  refine zw_getI dX4_leave_11 zfX4_64 rfl (xk_21 h) (by decide) ?_
  refine zw_ifle (tgt := 50) dX4_leave_14 (by decide) (fun c14 => ?_) (fun c14 => ?_)
  · refine zw_vret dX4_leave_50 rfl ?_
    refine ⟨rfl, ?_⟩
    rw [hpl, show nI 1 - 1 = nI 0 from nI_pred 0]
  · exfalso
    revert c14
    simp only [zF_zsI, zF_zsF, zI_zsF, zI_zsI, reduceIte, and_true, true_and, and_false, false_and, and_self, Nat.reduceEqDiff, hpl, show nI 1 - 1 = nI 0 from nI_pred 0]
    exact fun q => q (by decide)
set_option maxHeartbeats 4000000 in
set_option maxRecDepth 100000 in
theorem c_X4_leave_1 {l : Launch} {σ : zS} (h : xSh σ) {s q b lb ls : Nat} (hpl : zF σ 4 8 21 = nI (q + 2)) (hq : q < 399) (hs : s < 400) (hb : zI σ 28 q = nI b) (hb4 : b < 400) (hlb : zI σ 26 b = nI lb) (hls : zI σ 26 s = nI ls) (hb2 : lb < 2 ^ 31) (hs2 : ls < 2 ^ 31) : zAM l zmX4_leave 1 21 0 0 [.ref 21, .int (nI s)] σ (fun v σ' => v = none ∧ σ' = zsI (zsF σ 4 8 21 (nI (q + 1))) 26 b (nI (min lb ls))) := by
  refine zAM.of (by decide +kernel) (Nat.le_of_ble_eq_true rfl) ?_
  refine zw_aload_n dX4_leave_0 rfl ?_
  refine zw_dup dX4_leave_1 rfl ?_
  refine zw_getI dX4_leave_2 zfX4_64 rfl (xk_21 h) (by decide) ?_
  refine zw_iconst (x := 1) dX4_leave_5 rfl ?_
  refine zw_isub dX4_leave_6 ?_
  refine zw_putI dX4_leave_7 zfX4_64 rfl rfl ⟨rfl, rfl⟩ (xk_21 h) (by decide) ?_
  refine zw_aload_n dX4_leave_10 rfl ?_
  refine zw_getI dX4_leave_11 zfX4_64 rfl (xk_21 h) (by decide) ?_
  refine zw_ifle (tgt := 50) dX4_leave_14 (by decide) (fun c14 => ?_) (fun c14 => ?_)
  · refine zw_vret dX4_leave_50 rfl ?_
    exfalso
    revert c14
    simp only [zF_zsI, zF_zsF, zI_zsF, zI_zsI, reduceIte, and_true, true_and, and_false, false_and, and_self, Nat.reduceEqDiff, hpl, show nI (q + 2) - 1 = nI (q + 1) from nI_pred _]
    exact nI_nle (by omega) (by omega)
  · refine zw_aload_n dX4_leave_17 rfl ?_
    refine zw_getR dX4_leave_18 zfX4_31 rfl (xk_21 h) (by decide) (xg_4_6 h) ?_
    refine zw_aload_n dX4_leave_21 rfl ?_
    refine zw_getI dX4_leave_22 zfX4_64 rfl (xk_21 h) (by decide) ?_
    refine zw_iconst (x := 1) dX4_leave_25 rfl ?_
    refine zw_isub dX4_leave_26 ?_
    refine zw_iaload dX4_leave_27 (xk_28 h) (zin_of (xl_28 h) (by simp only [zF_zsI, zF_zsF, zI_zsF, zI_zsI, reduceIte, and_true, true_and, and_false, false_and, and_self, Nat.reduceEqDiff, hpl, show nI (q + 2) - 1 = nI (q + 1) from nI_pred _, nI_pred]; exact vp_in_nI (by omega) (by omega))) ?_
    simp only [zF_zsI, zF_zsF, zI_zsF, zI_zsI, reduceIte, and_true, true_and, and_false, false_and, and_self, Nat.reduceEqDiff, hpl, show nI (q + 2) - 1 = nI (q + 1) from nI_pred _, nI_pred, nI_clamp (show q < 2 ^ 31 by omega), hb]
    refine zw_istore_n dX4_leave_28 (by decide) rfl ?_
    refine zw_aload_n dX4_leave_29 rfl ?_
    refine zw_getR dX4_leave_30 zfX4_25 rfl (xk_21 h) (by decide) (xg_4_4 h) ?_
    refine zw_iload_n dX4_leave_33 rfl ?_
    refine zw_aload_n dX4_leave_34 rfl ?_
    refine zw_getR dX4_leave_35 zfX4_25 rfl (xk_21 h) (by decide) (xg_4_4 h) ?_
    refine zw_iload_n dX4_leave_38 rfl ?_
    refine zw_iaload dX4_leave_39 (xk_26 h) (zin_of (xl_26 h) (vp_in_nI (by omega) (by omega))) ?_
    refine zw_aload_n dX4_leave_40 rfl ?_
    refine zw_getR dX4_leave_41 zfX4_25 rfl (xk_21 h) (by decide) (xg_4_4 h) ?_
    refine zw_iload_n dX4_leave_44 rfl ?_
    refine zw_iaload dX4_leave_45 (xk_26 h) (zin_of (xl_26 h) (vp_in_nI (by omega) (by omega))) ?_
    refine zw_min dX4_leave_46 zminX4_103 ⟨Nat.le_of_ble_eq_true rfl, Nat.le_of_ble_eq_true rfl⟩ ?_
    refine zw_iastore dX4_leave_49 (xk_26 h) (by decide) (zin_of (xl_26 h) (vp_in_nI (by omega) (by omega))) ?_
    refine zw_vret dX4_leave_50 rfl ?_
    refine ⟨rfl, ?_⟩
    simp only [zI_zsF, nI_clamp (show b < 2 ^ 31 by omega), nI_clamp (show s < 2 ^ 31 by omega), hlb, hls]
    first | rw [nI_min hb2 hs2] | rw [nI_min' hb2 hs2]
set_option maxHeartbeats 4000000 in
set_option maxRecDepth 100000 in
theorem c_X4_isBadState {l : Launch} {σ : zS} (h : xSh σ) {s : Nat} {b : Bool} (hs : s < 400) (hb : zI σ 24 s = zb b) : zAM l zmX4_isBadState 0 0 0 0 [.ref 21, .int (nI s)] σ (fun v σ' => v = some (.int (zb b)) ∧ σ' = σ) := by
  refine zAM.of (by decide +kernel) (Nat.le_of_ble_eq_true rfl) ?_
  refine zw_aload_n dX4_isBadState_0 rfl ?_
  refine zw_getR dX4_isBadState_1 zfX4_18 rfl (xk_21 h) (by decide) (xg_4_2 h) ?_
  refine zw_iload_n dX4_isBadState_4 rfl ?_
  refine zw_baload dX4_isBadState_5 (xk_24 h) (zin_of (xl_24 h) (vp_in_nI (by omega) (by omega))) ?_
  refine zw_iret dX4_isBadState_6 rfl (by rw [nI_clamp (show s < 2 ^ 31 by omega), hb]; exact znz _) ?_
  rw [nI_clamp (show s < 2 ^ 31 by omega), hb]
  exact ⟨rfl, rfl⟩
