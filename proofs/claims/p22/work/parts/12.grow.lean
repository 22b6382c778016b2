/-! rows that grow, one step added -/
/-- what a row of ints is behind its doubling -/
def xCpy (σ : zS) (a : Nat) : zS := zsW (znA1 σ 0 (2 * zL σ a)) (zn σ) (va_cpy (zI σ a) (fun _ => 0) 0 0 (zL σ a))
set_option maxHeartbeats 4000000 in
set_option maxRecDepth 100000 in
theorem c_J7_copyOf_59c91 {l : Launch} {σ : zS} {a : Nat} (hk : zK σ a = 100) (hp : 0 < a) (h1 : 1 ≤ zL σ a) (h2 : zL σ a ≤ 67108864) : zAM l zmJ7_copyOf_59c91 1 40 1 (2 * zL σ a) [.ref a, .int (nI (2 * zL σ a))] σ (fun v σ' => v = some (.ref (zn σ)) ∧ σ' = xCpy σ a) := by
  refine zAM.of (by decide +kernel) (Nat.le_of_ble_eq_true rfl) ?_
  refine zw_wf (fun hw => ?_)
  have hne : a ≠ zn σ := zWF_ne hw hk (by decide)
  refine zw_iload_n dJ7_copyOf_59c91_0 rfl ?_
  refine zw_aload_n dJ7_copyOf_59c91_1 rfl ?_
  refine zw_alen (t := 0) dJ7_copyOf_59c91_2 hk (by decide) ?_
  refine zw_icmpne (tgt := 14) dJ7_copyOf_59c91_3 (by decide) (fun c3 => ?_) (fun c3 => ?_)
  · 
    refine zw_iload_n dJ7_copyOf_59c91_14 rfl ?_
    refine zw_newI (N := 2 * zL σ a) dJ7_copyOf_59c91_15 rfl (by omega) ⟨Nat.le_of_eq (Nat.zero_add _), Nat.le_of_eq (Nat.zero_add _)⟩ ?_
    refine zw_astore_n dJ7_copyOf_59c91_17 (by decide) rfl ?_
    refine zw_aload_n dJ7_copyOf_59c91_18 rfl ?_
    refine zw_iconst (x := 0) dJ7_copyOf_59c91_19 rfl ?_
    refine zw_aload_n dJ7_copyOf_59c91_20 rfl ?_
    refine zw_iconst (x := 0) dJ7_copyOf_59c91_21 rfl ?_
    refine zw_aload_n dJ7_copyOf_59c91_22 rfl ?_
    refine zw_alen (t := 0) dJ7_copyOf_59c91_23 (zK_old hw rfl hk (by decide)) (by decide) ?_
    refine zw_iload_n dJ7_copyOf_59c91_24 rfl ?_
    rw [show zL (znA1 σ 0 (2 * zL σ a)) a = zL σ a by rw [zL_znA1, if_neg hne]]
    refine zw_min dJ7_copyOf_59c91_25 zminJ7_304 ⟨Nat.le_of_ble_eq_true rfl, Nat.le_of_ble_eq_true rfl⟩ ?_
    rw [if_neg (show ¬ nI (2 * zL σ a) < nI (zL σ a) from nI_nlt (by omega) (by omega))]
    refine zw_copyI dJ7_copyOf_59c91_28 zacJ7_150 (zK_old hw rfl hk (by decide)) (show zK (znA1 σ 0 (2 * zL σ a)) (zn σ) = 100 by rw [zK_znA1, if_pos rfl]) hp hw.1 (by decide) (by decide) (nI_pos (by omega)) (by rw [nI_clamp (by omega), zL_znA1, if_neg hne]; show 0 + _ ≤ _; omega) (by rw [nI_clamp (by omega), zL_znA1, if_pos rfl]; show 0 + _ ≤ _; omega) ⟨Nat.le_of_ble_eq_true rfl, Nat.le_of_ble_eq_true rfl⟩ ?_
    refine zw_aload_n dJ7_copyOf_59c91_31 rfl ?_
    refine zw_aret dJ7_copyOf_59c91_32 rfl (Or.inr ⟨_, rfl⟩) ?_
    refine ⟨rfl, ?_⟩
    rw [nI_clamp (by omega)]
    unfold xCpy
    congr 1
    have e1 : zI (znA1 σ 0 (2 * zL σ a)) a = zI σ a := funext fun j => by rw [zI_znA1, if_neg hne]
    have e2 : zI (znA1 σ 0 (2 * zL σ a)) (zn σ) = fun _ => 0 := funext fun j => by rw [zI_znA1, if_pos rfl]
    rw [e1, e2]
    rfl
  · exact absurd c3 (fun e => by have := (nI_eq (by omega) (by omega)).mp e; omega)
set_option maxHeartbeats 4000000 in
set_option maxRecDepth 100000 in
theorem lp_fill {l : Launch} {a L : Nat} (h2 : L < 2 ^ 31) (hp : 0 < a) (x : Int32) {uc us : Nat} {R : Room} {Q : Option Value → zS → Prop} : ∀ (d i : Nat) (σ : zS), i + d = L → zK σ a = 100 → zL σ a = L → Q none (zsW σ a (fun j => if i ≤ j ∧ j < L then x else zI σ a j)) → zAW l zmJ7_fill_53178 R 5 [(0, .ref a), (1, .int x), (2, .int (nI i)), (3, .int (nI L))] [] σ uc us Q := by
  intro d
  induction d with
  | zero =>
    intro i σ hi hk hL hq
    have hi : i = L := hi
    subst hi
    refine zw_iload_n dJ7_fill_53178_5 rfl ?_
    refine zw_iload_n dJ7_fill_53178_6 rfl ?_
    refine zw_icmpge (tgt := 20) dJ7_fill_53178_7 (by decide) (fun c7 => ?_) (fun c7 => ?_)
    · refine zw_vret dJ7_fill_53178_20 rfl ?_
      have e : zsW σ a (fun j => if i ≤ j ∧ j < i then x else zI σ a j) = σ := by
        unfold zsW
        have : (fun a' i' => if a' = a then (if i ≤ i' ∧ i' < i then x else zI σ a i') else zI σ a' i') = zI σ := by
          funext a' i'
          by_cases q : a' = a
          · subst q
            rw [if_pos rfl, if_neg (by omega)]
          · rw [if_neg q]
        rw [this]
        rfl
      rw [e] at hq
      exact hq
    · exact absurd (nI_le (Nat.le_refl i) h2) c7
  | succ d ih =>
    intro i σ hi hk hL hq
    refine zw_iload_n dJ7_fill_53178_5 rfl ?_
    refine zw_iload_n dJ7_fill_53178_6 rfl ?_
    refine zw_icmpge (tgt := 20) dJ7_fill_53178_7 (by decide) (fun c7 => ?_) (fun c7 => ?_)
    · exact absurd c7 (nI_ge (show i < L by omega) h2)
    · refine zw_aload_n dJ7_fill_53178_10 rfl ?_
      refine zw_iload_n dJ7_fill_53178_11 rfl ?_
      refine zw_iload_n dJ7_fill_53178_12 rfl ?_
      refine zw_iastore dJ7_fill_53178_13 hk hp (by rw [hL]; exact vp_in_nI (by omega) h2) ?_
      refine zw_iinc dJ7_fill_53178_14 rfl (by decide) rfl ?_
      refine zw_goto (tgt := 5) dJ7_fill_53178_17 (by decide) ?_
      refine zw_loc (lc' := [(0, .ref a), (1, .int x), (2, .int (nI i + 1)), (3, .int (nI L))]) (zsub_cons rfl (zsub_cons rfl (zsub_cons rfl (zsub_cons rfl zsub_nil)))) ?_
      rw [nI_clamp (by omega), nI_1]
      refine ih (i + 1) (zsI σ a i x) (by omega) hk hL ?_
      have e : zsW (zsI σ a i x) a (fun j => if i + 1 ≤ j ∧ j < L then x else zI (zsI σ a i x) a j) = zsW σ a (fun j => if i ≤ j ∧ j < L then x else zI σ a j) := by
        unfold zsW
        have : (fun a' i' => if a' = a then (if i + 1 ≤ i' ∧ i' < L then x else zI (zsI σ a i x) a i') else zI (zsI σ a i x) a' i') = (fun a' i' => if a' = a then (if i ≤ i' ∧ i' < L then x else zI σ a i') else zI σ a' i') := by
          funext a' i'
          rw [zI_zsI, zI_zsI]
          by_cases q : a' = a
          · subst q
            rw [if_pos rfl, if_pos rfl]
            by_cases q1 : i' = i
            · subst q1
              rw [if_neg (by omega), if_pos ⟨rfl, rfl⟩, if_pos (by omega)]
            · by_cases q2 : i + 1 ≤ i' ∧ i' < L
              · rw [if_pos q2, if_pos (by omega)]
              · rw [if_neg q2, if_neg (fun z => q1 z.2), if_neg (by omega)]
          · rw [if_neg q, if_neg q, if_neg (fun z => q z.1)]
        rw [this]
        rfl
      rw [e]
      exact hq
set_option maxHeartbeats 4000000 in
set_option maxRecDepth 100000 in
theorem c_J7_fill_53178 {l : Launch} {σ : zS} {a L : Nat} (hk : zK σ a = 100) (hp : 0 < a) (hL : zL σ a = L) (h2 : L < 2 ^ 31) (x : Int32) : zAM l zmJ7_fill_53178 0 0 0 0 [.ref a, .int x] σ (fun v σ' => v = none ∧ σ' = zsW σ a (fun j => if 0 ≤ j ∧ j < L then x else zI σ a j)) := by
  refine zAM.of (by decide +kernel) (Nat.le_of_ble_eq_true rfl) ?_
  refine zw_iconst (x := 0) dJ7_fill_53178_0 rfl ?_
  refine zw_istore_n dJ7_fill_53178_1 (by decide) rfl ?_
  refine zw_aload_n dJ7_fill_53178_2 rfl ?_
  refine zw_alen (t := 0) dJ7_fill_53178_3 hk (by decide) ?_
  refine zw_istore_n dJ7_fill_53178_4 (by decide) rfl ?_
  rw [hL]
  refine zw_loc (lc' := [(0, .ref a), (1, .int x), (2, .int (nI 0)), (3, .int (nI L))]) (zsub_cons rfl (zsub_cons rfl (zsub_cons rfl (zsub_cons rfl zsub_nil)))) ?_
  exact lp_fill h2 hp x L 0 σ (Nat.zero_add L) hk hL ⟨rfl, rfl⟩
