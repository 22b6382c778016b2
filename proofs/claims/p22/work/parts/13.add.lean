/-! one step added -/
/-- the step T laid, of the state s, to the state g -/
def xAdd (σ : zS) (pk T g : Nat) (mov : Int32) (s : Nat) : zS := zsI (zsF (zsI σ pk T (mov ||| nI g)) 3 9 8 (nI (T + 1))) 13 s (zI σ 13 s ||| xTk mov)
/-- the row of steps doubled -/
def xGrow (σ : zS) (pk : Nat) : zS := zsG (xCpy σ pk) 3 7 8 (some (zn σ))
/-- the number of the state with a key, where it is there or is made: g, and the heap then -/
def xNum (σ : zS) (k : Int32) (s n g : Nat) (σ1 : zS) : Prop := ∃ t, xProbe σ k 1024 (xHash k) = t ∧ ((¬ zI σ 15 t < 0 ∧ zI σ 15 t = nI g ∧ σ1 = σ) ∨ (zI σ 15 t < 0 ∧ n < 400 ∧ g = n ∧ σ1 = xNew σ k t s (zI σ 10 s + 1) n))
theorem xNum.sh {σ σ1 : zS} {k : Int32} {s n g : Nat} (h : xNum σ k s n g σ1) (hs : xSh σ) : xSh σ1 := by
  obtain ⟨t, -, ⟨-, -, rfl⟩ | ⟨-, -, -, rfl⟩⟩ := h
  · exact hs
  · exact hs
theorem xNum.pk {σ σ1 : zS} {k : Int32} {s n g pk : Nat} (h : xNum σ k s n g σ1) (hs : xPk σ pk) : xPk σ1 pk := by
  obtain ⟨t, -, ⟨-, -, rfl⟩ | ⟨-, -, -, rfl⟩⟩ := h
  · exact hs
  · exact hs
theorem xNum.len {σ σ1 : zS} {k : Int32} {s n g : Nat} (h : xNum σ k s n g σ1) (a : Nat) : zL σ1 a = zL σ a := by
  obtain ⟨t, -, ⟨-, -, rfl⟩ | ⟨-, -, -, rfl⟩⟩ := h
  · rfl
  · rfl
theorem xNum.T {σ σ1 : zS} {k : Int32} {s n g : Nat} (h : xNum σ k s n g σ1) : xT σ1 = xT σ := by
  obtain ⟨t, -, ⟨-, -, rfl⟩ | ⟨-, -, -, rfl⟩⟩ := h
  · rfl
  · unfold xT xNew
    rw [zF_zsF, if_neg (by decide), zF_zsI, zF_zsI, zF_zsI, zF_zsI, zF_zsI]
theorem xPk_ne {σ : zS} {pk : Nat} (h : xPk σ pk) {a : Nat} (ha : a < 16) : a ≠ pk := by rcases h.2.2 with e | e <;> omega
theorem xGrow_sh {σ : zS} (hw : zWF σ) (h : xSh σ) (pk : Nat) : xSh (xGrow σ pk) := by
  refine h.mono (fun a ha => ?_) (fun a ha => ?_) (fun c k a ha hck => ?_)
  · have hne : a ≠ zn σ := fun e => ha (by rw [e]; exact hw.2.2 _ (Nat.le_refl _))
    show (if a = zn σ then 100 + 0 else zK σ a) = zK σ a
    rw [if_neg hne]
  · have hne : a ≠ zn σ := fun e => ha (by rw [e]; exact hw.2.2 _ (Nat.le_refl _))
    show (if a = zn σ then 2 * zL σ pk else zL σ a) = zL σ a
    rw [if_neg hne]
  · unfold xGrow
    rw [zG_zsG, if_neg (fun q => hck ⟨q.1, q.2.1⟩)]
    rfl
theorem xGrow_pk {σ : zS} (hw : zWF σ) (h : xSh σ) (pk : Nat) : xPk (xGrow σ pk) (zn σ) := by
  refine ⟨?_, ?_, Or.inr ?_⟩
  · unfold xGrow
    rw [zG_zsG, if_pos ⟨rfl, rfl, rfl⟩]
  · show (if zn σ = zn σ then 100 + 0 else zK σ (zn σ)) = 100
    rw [if_pos rfl]
  · have := zWF_lt hw (xk_29 h) (by decide)
    omega
theorem xGrow_len (σ : zS) (pk : Nat) : zL (xGrow σ pk) (zn σ) = 2 * zL σ pk := by
  show (if zn σ = zn σ then 2 * zL σ pk else zL σ (zn σ)) = _
  rw [if_pos rfl]
theorem xGrow_T (σ : zS) (pk : Nat) : xT (xGrow σ pk) = xT σ := rfl
set_option maxHeartbeats 4000000 in
set_option maxRecDepth 100000 in
theorem c_X3_addStep_in {l : Launch} {σ : zS} (h : xSh σ) (hsl : xSl σ) {pk n s T g : Nat} {σ1 : zS} {k mov : Int32} (hpk : xPk σ pk) (hn : xS σ = nI n) (hn4 : n ≤ 400) (hs : s < 400) (hT : xT σ = nI T) (hnum : xNum σ k s n g σ1) (hgl : g < 400) (hL : T < zL σ pk) (hL2 : zL σ pk < 2 ^ 31) : zAM l zmX3_addStep 2 62 0 0 [.ref 8, .int (nI s), .int k, .int mov] σ (fun v σ' => v = none ∧ σ' = xAdd σ1 pk T g mov s) := by
  refine zAM.of (by decide +kernel) (Nat.le_of_ble_eq_true rfl) ?_
  obtain ⟨t, ht, hg⟩ := id hnum
  have h1 := hnum.sh h
  have hpk1 := hnum.pk hpk
  have hL1 := hnum.len pk
  have hT1 := hnum.T.trans hT
  have hv1 : (if zI σ 15 t < 0 then (if n < 400 then nI n else -1) else zI σ 15 t) = nI g := by
    rcases hg with ⟨q1, q2, q3⟩ | ⟨q1, q2, q3, q4⟩
    · rw [if_neg q1]; exact q2
    · rw [if_pos q1, if_pos q2, q3]
  have hs1 : (if zI σ 15 t < 0 then (if n < 400 then xNew σ k t s (zI σ 10 s + 1) n else σ) else σ) = σ1 := by
    rcases hg with ⟨q1, q2, q3⟩ | ⟨q1, q2, q3, q4⟩
    · rw [if_neg q1]; exact q3.symm
    · rw [if_pos q1, if_pos q2]; exact q4.symm
  refine zw_aload_n dX3_addStep_0 rfl ?_
  refine zw_iload_n dX3_addStep_1 rfl ?_
  refine zw_iload_n dX3_addStep_2 rfl ?_
  refine zw_callV (y' := zmX3_numberOf) dX3_addStep_3 zlX3_124 zmX3_numberOf_ok (xk_8 h) (by decide) rfl (c_X3_numberOf h hsl hn hn4 hs k ht) rfl rfl (Nat.le_of_ble_eq_true rfl) ⟨Nat.le_of_ble_eq_true rfl, Nat.le_of_ble_eq_true rfl⟩ ⟨Nat.le_of_ble_eq_true rfl, Nat.le_of_ble_eq_true rfl⟩ ?_
  intro v3 s3 q3
  obtain ⟨rfl, rfl⟩ := q3
  rw [hv1, hs1]
  refine zw_istore dX3_addStep_6 (by decide) rfl ?_
  refine zw_iload dX3_addStep_8 rfl ?_
  refine zw_ifge (tgt := 19) dX3_addStep_10 (by decide) (fun c10 => ?_) (fun c10 => ?_)
  · refine zw_aload_n dX3_addStep_19 rfl ?_
    refine zw_getI dX3_addStep_20 zfX3_44 rfl (xk_8 h1) (by decide) ?_
    refine zw_aload_n dX3_addStep_23 rfl ?_
    refine zw_getR dX3_addStep_24 zfX3_33 rfl (xk_8 h1) (by decide) hpk1.1 ?_
    refine zw_alen (t := 0) dX3_addStep_27 (hpk1.2.1) (by decide) ?_
    refine zw_icmplt (tgt := 54) dX3_addStep_28 (by decide) (fun c28 => ?_) (fun c28 => ?_)
    · refine zw_aload_n dX3_addStep_54 rfl ?_
      refine zw_getR dX3_addStep_55 zfX3_33 rfl (xk_8 h1) (by decide) hpk1.1 ?_
      refine zw_aload_n dX3_addStep_58 rfl ?_
      refine zw_getI dX3_addStep_59 zfX3_44 rfl (xk_8 h1) (by decide) ?_
      refine zw_iload_n dX3_addStep_62 rfl ?_
      refine zw_iload dX3_addStep_63 rfl ?_
      refine zw_ior dX3_addStep_65 ?_
      refine zw_iastore dX3_addStep_66 (hpk1.2.1) (xPk_pos hpk1) (by rw [show zF σ1 3 9 8 = nI T from hT1]; exact vp_in_nI (by omega) (by omega)) ?_
      refine zw_aload_n dX3_addStep_67 rfl ?_
      refine zw_dup dX3_addStep_68 rfl ?_
      refine zw_getI dX3_addStep_69 zfX3_44 rfl (xk_8 h1) (by decide) ?_
      refine zw_iconst (x := 1) dX3_addStep_72 rfl ?_
      refine zw_iadd dX3_addStep_73 ?_
      refine zw_putI dX3_addStep_74 zfX3_44 rfl rfl ⟨rfl, rfl⟩ (xk_8 h1) (by decide) ?_
      refine zw_aload_n dX3_addStep_77 rfl ?_
      refine zw_getR dX3_addStep_78 zfX3_24 rfl (xk_8 h1) (by decide) (xg_3_4 h1) ?_
      refine zw_iload_n dX3_addStep_81 rfl ?_
      refine zw_dup2 dX3_addStep_82 rfl rfl ?_
      refine zw_iaload dX3_addStep_83 (xk_13 h1) (zin_of (xl_13 h1) (vp_in_nI (by omega) (by omega))) ?_
      refine zw_iload_n dX3_addStep_84 rfl ?_
      refine zw_callS (y' := zmX3_takersOf) dX3_addStep_85 zlX3_137 zmX3_takersOf_ok (c_X3_takersOf _) rfl rfl (Nat.le_of_ble_eq_true rfl) ⟨Nat.le_of_ble_eq_true rfl, Nat.le_of_ble_eq_true rfl⟩ ⟨Nat.le_of_ble_eq_true rfl, Nat.le_of_ble_eq_true rfl⟩ ?_
      intro v85 s85 q85
      obtain ⟨rfl, rfl⟩ := q85
      refine zw_ior dX3_addStep_88 ?_
      refine zw_iastore dX3_addStep_89 (xk_13 h1) (by decide) (zin_of (xl_13 h1) (vp_in_nI (by omega) (by omega))) ?_
      refine zw_vret dX3_addStep_90 rfl ?_
      refine ⟨rfl, ?_⟩
      unfold xAdd
      simp only [show zF σ1 3 9 8 = nI T from hT1, nI_clamp (show T < 2 ^ 31 by omega), nI_clamp (show s < 2 ^ 31 by omega), nI_1, zF_zsI, zI_zsF, zI_zsI, if_neg (show ¬ (13 = pk ∧ s = T) from fun q => xPk_ne hpk (by decide) q.1)]
    · exfalso
      rw [show zF σ1 3 9 8 = nI T from hT1, hL1] at c28
      exact c28 (nI_lt hL hL2)
  · exact absurd (nI_pos' (show g < 2 ^ 31 by omega)) c10
set_option maxHeartbeats 4000000 in
set_option maxRecDepth 100000 in
theorem c_X3_addStep_grow {l : Launch} {σ : zS} (h : xSh σ) (hsl : xSl σ) {pk n s T g : Nat} {σ1 : zS} {k mov : Int32} (hpk : xPk σ pk) (hn : xS σ = nI n) (hn4 : n ≤ 400) (hs : s < 400) (hT : xT σ = nI T) (hnum : xNum σ k s n g σ1) (hgl : g < 400) (hL : T = zL σ pk) (hL0 : 1 ≤ zL σ pk) (hL2 : zL σ pk ≤ 512000) : zAM l zmX3_addStep 2 62 1 (2 * zL σ pk) [.ref 8, .int (nI s), .int k, .int mov] σ (fun v σ' => v = none ∧ σ' = xAdd (xGrow σ1 pk) (zn σ1) T g mov s) := by
  refine zAM.of (by decide +kernel) (Nat.le_of_ble_eq_true rfl) ?_
  obtain ⟨t, ht, hg⟩ := id hnum
  have h1 := hnum.sh h
  have hpk1 := hnum.pk hpk
  have hL1 := hnum.len pk
  have hT1 := hnum.T.trans hT
  have hv1 : (if zI σ 15 t < 0 then (if n < 400 then nI n else -1) else zI σ 15 t) = nI g := by
    rcases hg with ⟨q1, q2, q3⟩ | ⟨q1, q2, q3, q4⟩
    · rw [if_neg q1]; exact q2
    · rw [if_pos q1, if_pos q2, q3]
  have hs1 : (if zI σ 15 t < 0 then (if n < 400 then xNew σ k t s (zI σ 10 s + 1) n else σ) else σ) = σ1 := by
    rcases hg with ⟨q1, q2, q3⟩ | ⟨q1, q2, q3, q4⟩
    · rw [if_neg q1]; exact q3.symm
    · rw [if_pos q1, if_pos q2]; exact q4.symm
  have hL3 := xGrow_len σ1 pk
  have hT2 : xT (xGrow σ1 pk) = nI T := (xGrow_T σ1 pk).trans hT1
  refine zw_aload_n dX3_addStep_0 rfl ?_
  refine zw_iload_n dX3_addStep_1 rfl ?_
  refine zw_iload_n dX3_addStep_2 rfl ?_
  refine zw_callV (y' := zmX3_numberOf) dX3_addStep_3 zlX3_124 zmX3_numberOf_ok (xk_8 h) (by decide) rfl (c_X3_numberOf h hsl hn hn4 hs k ht) rfl rfl (Nat.le_of_ble_eq_true rfl) ⟨Nat.le_of_ble_eq_true rfl, Nat.le_of_ble_eq_true rfl⟩ ⟨Nat.le_of_ble_eq_true rfl, Nat.le_of_ble_eq_true rfl⟩ ?_
  intro v3 s3 q3
  obtain ⟨rfl, rfl⟩ := q3
  rw [hv1, hs1]
  refine zw_istore dX3_addStep_6 (by decide) rfl ?_
  refine zw_iload dX3_addStep_8 rfl ?_
  refine zw_ifge (tgt := 19) dX3_addStep_10 (by decide) (fun c10 => ?_) (fun c10 => ?_)
  · refine zw_wf (fun hw1 => ?_)
    have h2 : xSh (xGrow σ1 pk) := xGrow_sh hw1 h1 pk
    have hpk2 : xPk (xGrow σ1 pk) (zn σ1) := xGrow_pk hw1 h1 pk
    refine zw_aload_n dX3_addStep_19 rfl ?_
    refine zw_getI dX3_addStep_20 zfX3_44 rfl (xk_8 h1) (by decide) ?_
    refine zw_aload_n dX3_addStep_23 rfl ?_
    refine zw_getR dX3_addStep_24 zfX3_33 rfl (xk_8 h1) (by decide) hpk1.1 ?_
    refine zw_alen (t := 0) dX3_addStep_27 (hpk1.2.1) (by decide) ?_
    refine zw_icmplt (tgt := 54) dX3_addStep_28 (by decide) (fun c28 => ?_) (fun c28 => ?_)
    · exfalso
      rw [show zF σ1 3 9 8 = nI T from hT1, hL1, ← hL] at c28
      exact absurd (Int32.lt_iff_toInt_lt.mp c28) (Int.lt_irrefl _)
    · refine zw_aload_n dX3_addStep_31 rfl ?_
      refine zw_aload_n dX3_addStep_32 rfl ?_
      refine zw_getR dX3_addStep_33 zfX3_33 rfl (xk_8 h1) (by decide) hpk1.1 ?_
      refine zw_aload_n dX3_addStep_36 rfl ?_
      refine zw_getR dX3_addStep_37 zfX3_33 rfl (xk_8 h1) (by decide) hpk1.1 ?_
      refine zw_alen (t := 0) dX3_addStep_40 (hpk1.2.1) (by decide) ?_
      refine zw_iconst (x := 2) dX3_addStep_41 rfl ?_
      refine zw_imul dX3_addStep_42 ?_
      rw [show nI (zL σ1 pk) * 2 = nI (2 * zL σ1 pk) by rw [show (2 : Int32) = nI 2 from rfl, pk_mul, Nat.mul_comm]]
      refine zw_ldc (x := 1024000) dX3_addStep_43 zkX3_127 ?_
      refine zw_min dX3_addStep_45 zminX3_128 ⟨Nat.le_of_ble_eq_true rfl, Nat.le_of_ble_eq_true rfl⟩ ?_
      rw [show (1024000 : Int32) = nI 1024000 from by decide, if_neg (show ¬ nI 1024000 < nI (2 * zL σ1 pk) from fun q => absurd ((nI_ltI (by decide) (by rw [hL1]; omega)).mp q) (by rw [hL1]; omega))]
      refine zw_callS (y' := zmJ7_copyOf_59c91) dX3_addStep_48 zlX3_133 zmJ7_copyOf_59c91_ok (c_J7_copyOf_59c91 (a := pk) hpk1.2.1 (xPk_pos hpk1) (by rw [hL1]; exact hL0) (by rw [hL1]; omega)) rfl rfl (Nat.le_of_ble_eq_true rfl) ⟨Nat.le_of_ble_eq_true rfl, Nat.le_of_ble_eq_true rfl⟩ ⟨Nat.le_of_eq (Nat.zero_add _), by rw [hL1]; exact Nat.le_of_eq (Nat.zero_add _)⟩ ?_
      intro v48 s48 q48
      obtain ⟨rfl, rfl⟩ := q48
      
      refine zw_putO dX3_addStep_51 zfX3_33 rfl (Or.inl rfl) (zK_old hw1 rfl (xk_8 h1) (by decide)) (by decide) ?_
      show zAW _ _ _ _ _ _ (xGrow σ1 pk) _ _ _
      rw [hL1]
      refine zw_aload_n dX3_addStep_54 rfl ?_
      refine zw_getR dX3_addStep_55 zfX3_33 rfl (xk_8 h2) (by decide) hpk2.1 ?_
      refine zw_aload_n dX3_addStep_58 rfl ?_
      refine zw_getI dX3_addStep_59 zfX3_44 rfl (xk_8 h2) (by decide) ?_
      refine zw_iload_n dX3_addStep_62 rfl ?_
      refine zw_iload dX3_addStep_63 rfl ?_
      refine zw_ior dX3_addStep_65 ?_
      refine zw_iastore dX3_addStep_66 (hpk2.2.1) (xPk_pos hpk2) (by rw [show zF (xGrow σ1 pk) 3 9 8 = nI T from hT2, hL3, hL1]; exact vp_in_nI (by omega) (by omega)) ?_
      refine zw_aload_n dX3_addStep_67 rfl ?_
      refine zw_dup dX3_addStep_68 rfl ?_
      refine zw_getI dX3_addStep_69 zfX3_44 rfl (xk_8 h2) (by decide) ?_
      refine zw_iconst (x := 1) dX3_addStep_72 rfl ?_
      refine zw_iadd dX3_addStep_73 ?_
      refine zw_putI dX3_addStep_74 zfX3_44 rfl rfl ⟨rfl, rfl⟩ (xk_8 h2) (by decide) ?_
      refine zw_aload_n dX3_addStep_77 rfl ?_
      refine zw_getR dX3_addStep_78 zfX3_24 rfl (xk_8 h2) (by decide) (xg_3_4 h2) ?_
      refine zw_iload_n dX3_addStep_81 rfl ?_
      refine zw_dup2 dX3_addStep_82 rfl rfl ?_
      refine zw_iaload dX3_addStep_83 (xk_13 h2) (zin_of (xl_13 h2) (vp_in_nI (by omega) (by omega))) ?_
      refine zw_iload_n dX3_addStep_84 rfl ?_
      refine zw_callS (y' := zmX3_takersOf) dX3_addStep_85 zlX3_137 zmX3_takersOf_ok (c_X3_takersOf _) rfl rfl (Nat.le_of_ble_eq_true rfl) ⟨Nat.le_of_ble_eq_true rfl, Nat.le_of_ble_eq_true rfl⟩ ⟨Nat.le_of_ble_eq_true rfl, by show 0 + 0 + 2 * zL σ pk + 0 ≤ 2 * zL σ pk; omega⟩ ?_
      intro v85 s85 q85
      obtain ⟨rfl, rfl⟩ := q85
      refine zw_ior dX3_addStep_88 ?_
      refine zw_iastore dX3_addStep_89 (xk_13 h2) (by decide) (zin_of (xl_13 h2) (vp_in_nI (by omega) (by omega))) ?_
      refine zw_vret dX3_addStep_90 rfl ?_
      refine ⟨rfl, ?_⟩
      show _ = xAdd (xGrow σ1 pk) (zn σ1) T g mov s
      unfold xAdd
      simp only [show zF (xGrow σ1 pk) 3 9 8 = nI T from hT2, nI_clamp (show T < 2 ^ 31 by omega), nI_clamp (show s < 2 ^ 31 by omega), nI_1, zF_zsI, zI_zsF, zI_zsI, if_neg (show ¬ (13 = zn σ1 ∧ s = T) from fun q => xPk_ne hpk2 (by decide) q.1)]
  · exact absurd (nI_pos' (show g < 2 ^ 31 by omega)) c10
set_option maxHeartbeats 4000000 in
set_option maxRecDepth 100000 in
theorem c_X3_addStep_full {l : Launch} {σ : zS} (h : xSh σ) (hsl : xSl σ) {s : Nat} {k mov : Int32} (hn : xS σ = nI 400) (hs : s < 400) {t : Nat} (ht : xProbe σ k 1024 (xHash k) = t) (hf : zI σ 15 t < 0) : zAM l zmX3_addStep 2 62 0 0 [.ref 8, .int (nI s), .int k, .int mov] σ (fun v σ' => v = none ∧ σ' = zsF σ 3 10 8 1) := by
  refine zAM.of (by decide +kernel) (Nat.le_of_ble_eq_true rfl) ?_
  refine zw_aload_n dX3_addStep_0 rfl ?_
  refine zw_iload_n dX3_addStep_1 rfl ?_
  refine zw_iload_n dX3_addStep_2 rfl ?_
  refine zw_callV (y' := zmX3_numberOf) dX3_addStep_3 zlX3_124 zmX3_numberOf_ok (xk_8 h) (by decide) rfl (c_X3_numberOf h hsl hn (Nat.le_refl 400) hs k ht) rfl rfl (Nat.le_of_ble_eq_true rfl) ⟨Nat.le_of_ble_eq_true rfl, Nat.le_of_ble_eq_true rfl⟩ ⟨Nat.le_of_ble_eq_true rfl, Nat.le_of_ble_eq_true rfl⟩ ?_
  intro v3 s3 q3
  obtain ⟨rfl, rfl⟩ := q3
  rw [if_pos hf, if_pos hf, if_neg (by decide), if_neg (by decide)]
  refine zw_istore dX3_addStep_6 (by decide) rfl ?_
  refine zw_iload dX3_addStep_8 rfl ?_
  refine zw_ifge (tgt := 19) dX3_addStep_10 (by decide) (fun c10 => ?_) (fun c10 => ?_)
  · exact absurd c10 (by decide)
  · refine zw_aload_n dX3_addStep_13 rfl ?_
    refine zw_iconst (x := 1) dX3_addStep_14 rfl ?_
    refine zw_putI dX3_addStep_15 zfX3_47 rfl rfl ⟨rfl, rfl⟩ (xk_8 h) (by decide) ?_
    refine zw_vret dX3_addStep_18 rfl ?_
    exact ⟨rfl, rfl⟩
