/-! slots of keys, numbers of states, steps -/
/-- the slot that a walk of d turns from t on comes to -/
def xProbe (σ : zS) (k : Int32) : Nat → Nat → Nat
  | 0, t => t
  | d + 1, t => if zI σ 15 t < 0 then t else if zI σ 9 (zI σ 15 t).toNatClampNeg = k then t else xProbe σ k d ((t + 1) % 1024)
def xHash (k : Int32) : Nat := (k * (-1640531535)).toBitVec.toNat / 2 ^ 22
theorem xHash_lt (k : Int32) : xHash k < 1024 := by
  unfold xHash
  have := (k * (-1640531535)).toBitVec.isLt
  omega
theorem xHash_nI (k : Int32) : ((k * (-1640531535)).toUInt32 >>> ((22 : Int32).toUInt32 &&& Int32.toUInt32 31)).toInt32 = nI (xHash k) := by
  apply Int32.toBitVec_inj.mp
  apply BitVec.eq_of_toNat_eq
  rw [pk_ushr (k * (-1640531535)) 22 22 (by decide), pk_tn (by have := xHash_lt k; omega)]
  rfl
/-- every slot is free, or holds a number of a state -/
def xSl (σ : zS) : Prop := ∀ t, t < 1024 → (zI σ 15 t < 0 ∨ ∃ s, s < 400 ∧ zI σ 15 t = nI s)
theorem nI_next {t : Nat} (h : t < 1024) : (nI t + 1) &&& 1023 = nI ((t + 1) % 1024) := by
  rw [nI_1, pk_andN (by omega) 10 (by decide)]
set_option maxHeartbeats 4000000 in
set_option maxRecDepth 100000 in
theorem lp_slotOf {l : Launch} {σ : zS} (h : xSh σ) (hsl : xSl σ) (k : Int32) {uc us : Nat} {R : Room} {Q : Option Value → zS → Prop} : ∀ (d i t : Nat), i + d = 1024 → t < 1024 → Q (some (.int (nI (xProbe σ k d t)))) σ → zAW l zmX3_slotOf R 10 [(0, .ref 8), (1, .int k), (2, .int (nI t)), (3, .int (nI i))] [] σ uc us Q := by
  intro d
  induction d with
  | zero =>
    intro i t hi ht hq
    have hi : i = 1024 := hi
    subst hi
    refine zw_iload_n dX3_slotOf_10 rfl ?_
    refine zw_sipush (x := 1024) dX3_slotOf_11 rfl ?_
    refine zw_icmpge (tgt := 55) dX3_slotOf_14 (by decide) (fun c14 => ?_) (fun c14 => ?_)
    · refine zw_iload_n dX3_slotOf_55 rfl ?_
      refine zw_iret dX3_slotOf_56 rfl rfl ?_
      exact hq
    · exact absurd (nI_le (Nat.le_refl 1024) (by omega)) c14
  | succ d ih =>
    intro i t hi ht hq
    refine zw_iload_n dX3_slotOf_10 rfl ?_
    refine zw_sipush (x := 1024) dX3_slotOf_11 rfl ?_
    refine zw_icmpge (tgt := 55) dX3_slotOf_14 (by decide) (fun c14 => ?_) (fun c14 => ?_)
    · exact absurd c14 (show ¬ (1024 : Int32) ≤ nI i from nI_ge (show i < 1024 by omega) (by decide))
    · refine zw_aload_n dX3_slotOf_17 rfl ?_
      refine zw_getR dX3_slotOf_18 zfX3_30 rfl (xk_8 h) (by decide) (xg_3_6 h) ?_
      refine zw_iload_n dX3_slotOf_21 rfl ?_
      refine zw_iaload dX3_slotOf_22 (xk_15 h) (zin_of (xl_15 h) (vp_in_nI (by omega) (by omega))) ?_
      rw [nI_clamp (n := t) (by omega)]
      refine zw_iflt (tgt := 55) dX3_slotOf_23 (by decide) (fun c23 => ?_) (fun c23 => ?_)
      · refine zw_iload_n dX3_slotOf_55 rfl ?_
        refine zw_iret dX3_slotOf_56 rfl rfl ?_
        rw [xProbe, if_pos c23] at hq
        exact hq
      · refine zw_aload_n dX3_slotOf_26 rfl ?_
        refine zw_getR dX3_slotOf_27 zfX3_11 rfl (xk_8 h) (by decide) (xg_3_0 h) ?_
        refine zw_aload_n dX3_slotOf_30 rfl ?_
        refine zw_getR dX3_slotOf_31 zfX3_30 rfl (xk_8 h) (by decide) (xg_3_6 h) ?_
        refine zw_iload_n dX3_slotOf_34 rfl ?_
        refine zw_iaload dX3_slotOf_35 (xk_15 h) (zin_of (xl_15 h) (vp_in_nI (by omega) (by omega))) ?_
        refine zw_iaload dX3_slotOf_36 (xk_9 h) (zin_of (xl_9 h) (by rw [nI_clamp (n := t) (by omega)]; rcases hsl t ht with q | ⟨s, q1, q2⟩; exact absurd q c23; rw [q2]; exact vp_in_nI q1 (by omega))) ?_
        rw [nI_clamp (n := t) (by omega)]
        refine zw_iload_n dX3_slotOf_37 rfl ?_
        refine zw_icmpeq (tgt := 55) dX3_slotOf_38 (by decide) (fun c38 => ?_) (fun c38 => ?_)
        · refine zw_iload_n dX3_slotOf_55 rfl ?_
          refine zw_iret dX3_slotOf_56 rfl rfl ?_
          rw [xProbe, if_neg c23, if_pos c38] at hq
          exact hq
        · refine zw_iload_n dX3_slotOf_41 rfl ?_
          refine zw_iconst (x := 1) dX3_slotOf_42 rfl ?_
          refine zw_iadd dX3_slotOf_43 ?_
          refine zw_sipush (x := 1023) dX3_slotOf_44 rfl ?_
          refine zw_iand dX3_slotOf_47 ?_
          refine zw_istore_n dX3_slotOf_48 (by decide) rfl ?_
          refine zw_iinc dX3_slotOf_49 rfl (by decide) rfl ?_
          refine zw_goto (tgt := 10) dX3_slotOf_52 (by decide) ?_
          refine zw_loc (lc' := [(0, .ref 8), (1, .int k), (2, .int ((nI t + 1) &&& 1023)), (3, .int (nI i + 1))]) (zsub_cons rfl (zsub_cons rfl (zsub_cons rfl (zsub_cons rfl zsub_nil)))) ?_
          rw [nI_next ht, nI_1]
          exact ih (i + 1) ((t + 1) % 1024) (by omega) (by omega) (by rw [xProbe, if_neg c23, if_neg c38] at hq; exact hq)
set_option maxHeartbeats 4000000 in
set_option maxRecDepth 100000 in
theorem c_X3_slotOf {l : Launch} {σ : zS} (h : xSh σ) (hsl : xSl σ) (k : Int32) : zAM l zmX3_slotOf 0 0 0 0 [.ref 8, .int k] σ (fun v σ' => v = some (.int (nI (xProbe σ k 1024 (xHash k)))) ∧ σ' = σ) := by
  refine zAM.of (by decide +kernel) (Nat.le_of_ble_eq_true rfl) ?_
  refine zw_iload_n dX3_slotOf_0 rfl ?_
  refine zw_ldc (x := -1640531535) dX3_slotOf_1 zkX3_140 ?_
  refine zw_imul dX3_slotOf_3 ?_
  refine zw_bipush (x := 22) dX3_slotOf_4 rfl ?_
  refine zw_iushr dX3_slotOf_6 ?_
  rw [xHash_nI]
  refine zw_istore_n dX3_slotOf_7 (by decide) rfl ?_
  refine zw_iconst (x := 0) dX3_slotOf_8 rfl ?_
  refine zw_istore_n dX3_slotOf_9 (by decide) rfl ?_
  refine zw_loc (lc' := [(0, .ref 8), (1, .int k), (2, .int (nI (xHash k))), (3, .int (nI 0))]) (zsub_cons rfl (zsub_cons rfl (zsub_cons rfl (zsub_cons rfl zsub_nil)))) ?_
  exact lp_slotOf h hsl k 1024 0 (xHash k) rfl (xHash_lt k) ⟨rfl, rfl⟩
theorem Int32_lt_400 {σ : zS} {n : Nat} (hn : xS σ = nI n) (hb : n < 2 ^ 31) (c : zF σ 3 8 8 < 400) : n < 400 := by
  have c : xS σ < 400 := c
  rw [hn] at c
  rcases Nat.lt_or_ge n 400 with q | q
  · exact q
  · exfalso
    have h2 := Int32.lt_iff_toInt_lt.mp c
    rw [zt_400] at h2
    rw [nI_toInt hb] at h2
    omega
theorem pk_pred (n : Nat) : nI (n + 1) - 1 = nI n := nI_pred n
theorem xProbe_lt (σ : zS) (k : Int32) : ∀ d t, t < 1024 → xProbe σ k d t < 1024
  | 0, t, h => h
  | d + 1, t, h => by
    unfold xProbe
    split
    · exact h
    · split
      · exact h
      · exact xProbe_lt σ k d _ (by omega)
set_option maxHeartbeats 4000000 in
set_option maxRecDepth 100000 in
theorem c_X3_numberOf {l : Launch} {σ : zS} (h : xSh σ) (hsl : xSl σ) {n p : Nat} (hn : xS σ = nI n) (hn4 : n ≤ 400) (hp : p < 400) (k : Int32) {t : Nat} (ht : xProbe σ k 1024 (xHash k) = t) : zAM l zmX3_numberOf 1 24 0 0 [.ref 8, .int k, .int (nI p)] σ (fun v σ' => v = some (.int (if zI σ 15 t < 0 then (if n < 400 then nI n else -1) else zI σ 15 t)) ∧ σ' = (if zI σ 15 t < 0 then (if n < 400 then xNew σ k t p (zI σ 10 p + 1) n else σ) else σ)) := by
  refine zAM.of (by decide +kernel) (Nat.le_of_ble_eq_true rfl) ?_
  have htl : t < 1024 := by rw [← ht]; exact xProbe_lt σ k 1024 _ (xHash_lt k)
  refine zw_aload_n dX3_numberOf_0 rfl ?_
  refine zw_iload_n dX3_numberOf_1 rfl ?_
  refine zw_callV (y' := zmX3_slotOf) dX3_numberOf_2 zlX3_66 zmX3_slotOf_ok (xk_8 h) (by decide) rfl (c_X3_slotOf h hsl _) rfl rfl (Nat.le_of_ble_eq_true rfl) ⟨Nat.le_of_ble_eq_true rfl, Nat.le_of_ble_eq_true rfl⟩ ⟨Nat.le_of_ble_eq_true rfl, Nat.le_of_ble_eq_true rfl⟩ ?_
  intro v2 s2 q2
  obtain ⟨rfl, rfl⟩ := q2
  rw [ht]
  refine zw_istore_n dX3_numberOf_5 (by decide) rfl ?_
  refine zw_aload_n dX3_numberOf_6 rfl ?_
  refine zw_getR dX3_numberOf_7 zfX3_30 rfl (xk_8 h) (by decide) (xg_3_6 h) ?_
  refine zw_iload_n dX3_numberOf_10 rfl ?_
  refine zw_iaload dX3_numberOf_11 (xk_15 h) (zin_of (xl_15 h) (vp_in_nI (by omega) (by omega))) ?_
  rw [nI_clamp (n := t) (by omega)]
  refine zw_iflt (tgt := 22) dX3_numberOf_12 (by decide) (fun c12 => ?_) (fun c12 => ?_)
  · refine zw_aload_n dX3_numberOf_22 rfl ?_
    refine zw_getI dX3_numberOf_23 zfX3_36 rfl (xk_8 h) (by decide) ?_
    refine zw_sipush (x := 400) dX3_numberOf_26 rfl ?_
    refine zw_icmplt (tgt := 34) dX3_numberOf_29 (by decide) (fun c29 => ?_) (fun c29 => ?_)
    · refine zw_aload_n dX3_numberOf_34 rfl ?_
      refine zw_iload_n dX3_numberOf_35 rfl ?_
      refine zw_iload_n dX3_numberOf_36 rfl ?_
      refine zw_iload_n dX3_numberOf_37 rfl ?_
      refine zw_aload_n dX3_numberOf_38 rfl ?_
      refine zw_getR dX3_numberOf_39 zfX3_15 rfl (xk_8 h) (by decide) (xg_3_1 h) ?_
      refine zw_iload_n dX3_numberOf_42 rfl ?_
      refine zw_iaload dX3_numberOf_43 (xk_10 h) (zin_of (xl_10 h) (vp_in_nI (by omega) (by omega))) ?_
      rw [nI_clamp (n := p) (by omega)]
      refine zw_iconst (x := 1) dX3_numberOf_44 rfl ?_
      refine zw_iadd dX3_numberOf_45 ?_
      refine zw_callV (y' := zmX3_newState) dX3_numberOf_46 zlX3_70 zmX3_newState_ok (xk_8 h) (by decide) rfl (c_X3_newState (f := 0) h hn (Int32_lt_400 (n := n) hn (Nat.lt_of_le_of_lt hn4 (by decide)) c29) htl hp _ _) rfl rfl (Nat.le_of_ble_eq_true rfl) ⟨Nat.le_of_ble_eq_true rfl, Nat.le_of_ble_eq_true rfl⟩ ⟨Nat.le_of_ble_eq_true rfl, Nat.le_of_ble_eq_true rfl⟩ ?_
      intro v46 s46 q46
      obtain ⟨rfl, rfl⟩ := q46
      refine zw_aload_n dX3_numberOf_49 rfl ?_
      refine zw_getI dX3_numberOf_50 zfX3_36 rfl (xk_8 h) (by decide) ?_
      refine zw_iconst (x := 1) dX3_numberOf_53 rfl ?_
      refine zw_isub dX3_numberOf_54 ?_
      refine zw_iret dX3_numberOf_55 rfl rfl ?_
      have h4 := Int32_lt_400 (n := n) hn (Nat.lt_of_le_of_lt hn4 (by decide)) c29
      rw [if_pos c12, if_pos c12, if_pos h4, if_pos h4]
      refine ⟨?_, rfl⟩
      unfold xNew
      rw [zF_zsF, if_pos ⟨rfl, rfl, rfl⟩, pk_pred]
    · refine zw_iconst (x := -1) dX3_numberOf_32 rfl ?_
      refine zw_iret dX3_numberOf_33 rfl rfl ?_
      rw [if_pos c12, if_pos c12]
      have h4 : ¬ n < 400 := fun q => c29 (by show xS _ < _; rw [hn]; exact nI_lt q (by decide))
      rw [if_neg h4, if_neg h4]
      exact ⟨rfl, rfl⟩
  · refine zw_aload_n dX3_numberOf_15 rfl ?_
    refine zw_getR dX3_numberOf_16 zfX3_30 rfl (xk_8 h) (by decide) (xg_3_6 h) ?_
    refine zw_iload_n dX3_numberOf_19 rfl ?_
    refine zw_iaload dX3_numberOf_20 (xk_15 h) (zin_of (xl_15 h) (vp_in_nI (by omega) (by omega))) ?_
    refine zw_iret dX3_numberOf_21 rfl rfl ?_
    rw [nI_clamp (n := t) (by omega), if_neg c12, if_neg c12]
    exact ⟨rfl, rfl⟩
