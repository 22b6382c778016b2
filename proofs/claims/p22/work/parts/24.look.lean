/-! Traps: a state looked at -/
theorem zsF_zsF (σ : zS) (c k a : Nat) (x y : Int32) : zsF (zsF σ c k a x) c k a y = zsF σ c k a y := by
  have h : (fun c' k' a' => if c' = c ∧ k' = k ∧ a' = a then y else zF (zsF σ c k a x) c' k' a') = (fun c' k' a' => if c' = c ∧ k' = k ∧ a' = a then y else zF σ c' k' a') := by
    funext c' k' a'
    by_cases q : c' = c ∧ k' = k ∧ a' = a
    · rw [if_pos q, if_pos q]
    · rw [if_neg q, if_neg q, zF_zsF, if_neg q]
  exact congrArg (fun F => ((zK σ, zL σ, F, zG σ, zI σ, zR σ, zJ σ, zn σ) : zS)) h
theorem zsF_comm (σ : zS) (c k a c2 k2 a2 : Nat) (x y : Int32) (hne : ¬ (c2 = c ∧ k2 = k ∧ a2 = a)) : zsF (zsF σ c k a x) c2 k2 a2 y = zsF (zsF σ c2 k2 a2 y) c k a x := by
  have h : (fun c' k' a' => if c' = c2 ∧ k' = k2 ∧ a' = a2 then y else zF (zsF σ c k a x) c' k' a') = (fun c' k' a' => if c' = c ∧ k' = k ∧ a' = a then x else zF (zsF σ c2 k2 a2 y) c' k' a') := by
    funext c' k' a'
    by_cases q : c' = c2 ∧ k' = k2 ∧ a' = a2
    · rw [if_pos q, if_neg (fun z => hne ⟨q.1.symm.trans z.1, q.2.1.symm.trans z.2.1, q.2.2.symm.trans z.2.2⟩), zF_zsF, if_pos q]
    · rw [if_neg q, zF_zsF, zF_zsF, if_neg q]
  exact congrArg (fun F => ((zK σ, zL σ, F, zG σ, zI σ, zR σ, zJ σ, zn σ) : zS)) h
theorem zsF_self (σ : zS) (c k a : Nat) (x : Int32) (hx : zF σ c k a = x) : zsF σ c k a x = σ := by
  have h : (fun c' k' a' => if c' = c ∧ k' = k ∧ a' = a then x else zF σ c' k' a') = zF σ := by
    funext c' k' a'
    by_cases q : c' = c ∧ k' = k ∧ a' = a
    · rw [if_pos q, q.1, q.2.1, q.2.2, hx]
    · rw [if_neg q]
  exact congrArg (fun F => ((zK σ, zL σ, F, zG σ, zI σ, zR σ, zJ σ, zn σ) : zS)) h
def xLk (σ : zS) (f g : Int32) : zS := zsF (zsF σ 4 13 21 f) 4 14 21 g
theorem xLk_13 (σ : zS) (f g x : Int32) : zsF (xLk σ f g) 4 13 21 x = xLk σ x g := by
  unfold xLk
  rw [zsF_comm _ 4 14 21 4 13 21 g x (by decide), zsF_zsF]
theorem xLk_14 (σ : zS) (f g x : Int32) : zsF (xLk σ f g) 4 14 21 x = xLk σ f x := by
  unfold xLk
  rw [zsF_zsF]
theorem xLk_of (σ : zS) (g x : Int32) (h : zF σ 4 14 21 = g) : zsF σ 4 13 21 x = xLk σ x g := by
  unfold xLk
  rw [zsF_comm σ 4 13 21 4 14 21 x g (by decide), zsF_self σ 4 14 21 g h]
theorem xLk_xLk (σ : zS) (f g f2 g2 : Int32) : xLk (xLk σ f g) f2 g2 = xLk σ f2 g2 := by
  show zsF (zsF (xLk σ f g) 4 13 21 f2) 4 14 21 g2 = _
  rw [xLk_13, xLk_14]
def lkG (w wa bad : Nat → Bool) : Bool → List Nat → Bool
  | g, [] => g
  | g, t :: r => lkG w wa bad (g || (w t && !wa t && bad t)) r
def lkI (w wa : Nat → Bool) : List Nat → Bool
  | [] => false
  | t :: r => (w t && wa t) || lkI w wa r
theorem lkG_iff {w wa bad : Nat → Bool} : ∀ (l : List Nat) (g : Bool), lkG w wa bad g l = true ↔ g = true ∨ ∃ t, t ∈ l ∧ w t = true ∧ wa t = false ∧ bad t = true
  | [], g => by simp [lkG]
  | t :: r, g => by
    rw [lkG, lkG_iff r]
    constructor
    · rintro (h | ⟨t', h1, h2⟩)
      · rcases Bool.or_eq_true _ _ ▸ h with h | h
        · exact .inl h
        · simp only [Bool.and_eq_true, Bool.not_eq_true'] at h
          exact .inr ⟨t, List.mem_cons_self, h.1.1, h.1.2, h.2⟩
      · exact .inr ⟨t', List.mem_cons_of_mem _ h1, h2⟩
    · rintro (h | ⟨t', h1, h2, h3, h4⟩)
      · exact .inl (by rw [h, Bool.true_or])
      · rcases List.mem_cons.mp h1 with q | q
        · exact .inl (by rw [← q, h2, h3, h4]; cases g <;> rfl)
        · exact .inr ⟨t', q, h2, h3, h4⟩
theorem lkI_iff {w wa : Nat → Bool} : ∀ (l : List Nat), lkI w wa l = true ↔ ∃ t, t ∈ l ∧ w t = true ∧ wa t = true
  | [] => by simp [lkI]
  | t :: r => by
    rw [lkI, Bool.or_eq_true, lkI_iff r, Bool.and_eq_true]
    constructor
    · rintro (h | ⟨t', h1, h2⟩)
      · exact ⟨t, List.mem_cons_self, h⟩
      · exact ⟨t', List.mem_cons_of_mem _ h1, h2⟩
    · rintro ⟨t', h1, h2⟩
      rcases List.mem_cons.mp h1 with q | q
      · exact .inl (q ▸ h2)
      · exact .inr ⟨t', q, h2⟩
set_option maxHeartbeats 4000000 in
set_option maxRecDepth 100000 in
theorem lp_lookAt {l : Launch} {σ : zS} (h : xSh σ) {pk n s F L : Nat} {w wa bad : Nat → Bool} (hpk : xPk σ pk) (hn : n ≤ 400) (hs : s < 400) (hF : zI σ 14 s = nI F) (hL : F + L ≤ zL σ pk) (hl : zL σ pk < 2 ^ 31) (hw : ∀ t, t < n → zI σ 22 t = zb (w t) ∧ zI σ 23 t = zb (wa t) ∧ zI σ 24 t = zb (bad t)) {Q : Option Value → zS → Prop} : ∀ (r : List Nat) (i : Nat) (f : Int32) (g : Bool), i + r.length = L → (∀ j t, r[j]? = some t → t < n ∧ xPart (zI σ pk (F + (i + j))) 0 = nI t) → (∀ f', (lkI w wa r = false → f' = f) → Q none (xLk σ f' (zb (lkG w wa bad g r)))) → zAW l zmX4_lookAt { frames := 2, cells := 0, slots := 0, locals := 42 } 25 [(0, .ref 21), (1, .int (nI s)), (2, .ref 8), (3, .int (nI L)), (4, .int (nI i))] [] (xLk σ f (zb g)) 0 0 Q := by
  intro r
  induction r with
  | nil =>
    intro i f g hd hr hQ
    have hd : i = L := hd
    subst hd
    refine zw_iload dX4_lookAt_25 rfl ?_
    refine zw_iload_n dX4_lookAt_27 rfl ?_
    refine zw_icmpge (tgt := 116) dX4_lookAt_28 (by decide) (fun c28 => ?_) (fun c28 => ?_)
    · refine zw_vret dX4_lookAt_116 rfl ?_
      exact hQ f (fun _ => rfl)
    · exact absurd c28 (fun q => q (Int32.le_refl _))
  | cons t r ih =>
    intro i f g hd hr hQ
    rw [List.length_cons] at hd
    obtain ⟨ht, hp⟩ := hr 0 t rfl
    obtain ⟨hw1, hw2, hw3⟩ := hw t ht
    rw [Nat.add_zero] at hp
    have hr' : ∀ j t', r[j]? = some t' → t' < n ∧ xPart (zI σ pk (F + (i + 1 + j))) 0 = nI t' := fun j t' hj => by
      have := hr (j + 1) t' hj
      rw [show i + (j + 1) = i + 1 + j from by omega] at this
      exact this
    refine zw_iload dX4_lookAt_25 rfl ?_
    refine zw_iload_n dX4_lookAt_27 rfl ?_
    refine zw_icmpge (tgt := 116) dX4_lookAt_28 (by decide) (fun c28 => ?_) (fun c28 => ?_)
    · exact absurd c28 (nI_ge (show i < L by omega) (by omega))
    · refine zw_aload_n dX4_lookAt_31 rfl ?_
      refine zw_iload_n dX4_lookAt_32 rfl ?_
      refine zw_iload dX4_lookAt_33 rfl ?_
      refine zw_callV (y' := zmX3_packedStep) dX4_lookAt_35 zlX4_86 zmX3_packedStep_ok (xk_8 h) (by decide) rfl (c_X3_packedStep (σ := xLk σ f (zb g)) (pk := pk) (f := F) (i := i) h hpk hs hF (show F + i < zL σ pk by omega) hl) rfl rfl (Nat.le_of_ble_eq_true rfl) ⟨Nat.le_of_ble_eq_true rfl, Nat.le_of_ble_eq_true rfl⟩ ⟨Nat.le_of_ble_eq_true rfl, Nat.le_of_ble_eq_true rfl⟩ ?_
      intro v35 s35 q35
      obtain ⟨rfl, z35⟩ := q35
      rw [z35]
      clear z35
      refine zw_istore dX4_lookAt_38 (by decide) rfl ?_
      refine zw_iload dX4_lookAt_40 rfl ?_
      refine zw_iconst (x := 0) dX4_lookAt_42 rfl ?_
      refine zw_callS (y' := zmX3_partOf) dX4_lookAt_43 zlX4_90 zmX3_partOf_ok (c_X3_partOf _ _) rfl rfl (Nat.le_of_ble_eq_true rfl) ⟨Nat.le_of_ble_eq_true rfl, Nat.le_of_ble_eq_true rfl⟩ ⟨Nat.le_of_ble_eq_true rfl, Nat.le_of_ble_eq_true rfl⟩ ?_
      intro v43 s43 q43
      obtain ⟨rfl, z43⟩ := q43
      rw [z43]
      clear z43
      rw [show zI (xLk σ f (zb g)) = zI σ from rfl, hp]
      refine zw_istore dX4_lookAt_46 (by decide) rfl ?_
      refine zw_aload_n dX4_lookAt_48 rfl ?_
      refine zw_getR dX4_lookAt_49 zfX4_9 rfl (xk_21 h) (by decide) (xg_4_0 h) ?_
      refine zw_iload dX4_lookAt_52 rfl ?_
      refine zw_baload dX4_lookAt_54 (xk_22 h) (zin_of (xl_22 h) (vp_in_nI (by omega) (by omega))) ?_
      refine zw_ifeq (tgt := 85) dX4_lookAt_55 (by decide) (fun c55 => ?_) (fun c55 => ?_)
      · refine zw_aload_n dX4_lookAt_85 rfl ?_
        refine zw_getR dX4_lookAt_86 zfX4_9 rfl (xk_21 h) (by decide) (xg_4_0 h) ?_
        refine zw_iload dX4_lookAt_89 rfl ?_
        refine zw_baload dX4_lookAt_91 (xk_22 h) (zin_of (xl_22 h) (vp_in_nI (by omega) (by omega))) ?_
        refine zw_ifeq (tgt := 110) dX4_lookAt_92 (by decide) (fun c92 => ?_) (fun c92 => ?_)
        · refine zw_iinc dX4_lookAt_110 rfl (by decide) rfl ?_
          refine zw_goto (tgt := 25) dX4_lookAt_113 (by decide) ?_
          rw [nI_clamp (show t < 2 ^ 31 by omega), show zI (xLk σ f (zb g)) 22 t = _ from hw1] at c55
          replace c55 := zb_0.mp c55
          rw [nI_clamp (show t < 2 ^ 31 by omega), show zI (xLk σ f (zb g)) 22 t = _ from hw1] at c92
          replace c92 := zb_0.mp c92
          simp only [lkI, lkG, c55, Bool.true_and, Bool.false_and, Bool.and_true, Bool.and_false, Bool.or_true, Bool.or_false, Bool.true_or, Bool.false_or, Bool.not_true, Bool.not_false] at hQ
          refine zw_loc (lc' := [(0, .ref 21), (1, .int (nI s)), (2, .ref 8), (3, .int (nI L)), (4, .int (nI i + 1))]) (zsub_cons rfl (zsub_cons rfl (zsub_cons rfl (zsub_cons rfl (zsub_cons rfl zsub_nil))))) ?_
          rw [nI_1]
          exact ih (i + 1) f g (by omega) hr' hQ
        · refine zw_aload_n dX4_lookAt_95 rfl ?_
          refine zw_getR dX4_lookAt_96 zfX4_18 rfl (xk_21 h) (by decide) (xg_4_2 h) ?_
          refine zw_iload dX4_lookAt_99 rfl ?_
          refine zw_baload dX4_lookAt_101 (xk_24 h) (zin_of (xl_24 h) (vp_in_nI (by omega) (by omega))) ?_
          refine zw_ifeq (tgt := 110) dX4_lookAt_102 (by decide) (fun c102 => ?_) (fun c102 => ?_)
          · refine zw_iinc dX4_lookAt_110 rfl (by decide) rfl ?_
            refine zw_goto (tgt := 25) dX4_lookAt_113 (by decide) ?_
            rw [nI_clamp (show t < 2 ^ 31 by omega), show zI (xLk σ f (zb g)) 22 t = _ from hw1] at c55
            replace c55 := zb_0.mp c55
            rw [nI_clamp (show t < 2 ^ 31 by omega), show zI (xLk σ f (zb g)) 22 t = _ from hw1] at c92
            replace c92 := zb_1.mp c92
            rw [c55] at c92
            exact absurd c92 (by decide)
          · refine zw_aload_n dX4_lookAt_105 rfl ?_
            refine zw_iconst (x := 1) dX4_lookAt_106 rfl ?_
            refine zw_putI dX4_lookAt_107 zfX4_111 rfl rfl ⟨rfl, rfl⟩ (xk_21 h) (by decide) ?_
            refine zw_iinc dX4_lookAt_110 rfl (by decide) rfl ?_
            refine zw_goto (tgt := 25) dX4_lookAt_113 (by decide) ?_
            rw [nI_clamp (show t < 2 ^ 31 by omega), show zI (xLk σ f (zb g)) 22 t = _ from hw1] at c55
            replace c55 := zb_0.mp c55
            rw [nI_clamp (show t < 2 ^ 31 by omega), show zI (xLk σ f (zb g)) 22 t = _ from hw1] at c92
            replace c92 := zb_1.mp c92
            rw [c55] at c92
            exact absurd c92 (by decide)
      · refine zw_aload_n dX4_lookAt_58 rfl ?_
        refine zw_getR dX4_lookAt_59 zfX4_15 rfl (xk_21 h) (by decide) (xg_4_1 h) ?_
        refine zw_iload dX4_lookAt_62 rfl ?_
        refine zw_baload dX4_lookAt_64 (xk_23 h) (zin_of (xl_23 h) (vp_in_nI (by omega) (by omega))) ?_
        refine zw_ifeq (tgt := 85) dX4_lookAt_65 (by decide) (fun c65 => ?_) (fun c65 => ?_)
        · refine zw_aload_n dX4_lookAt_85 rfl ?_
          refine zw_getR dX4_lookAt_86 zfX4_9 rfl (xk_21 h) (by decide) (xg_4_0 h) ?_
          refine zw_iload dX4_lookAt_89 rfl ?_
          refine zw_baload dX4_lookAt_91 (xk_22 h) (zin_of (xl_22 h) (vp_in_nI (by omega) (by omega))) ?_
          refine zw_ifeq (tgt := 110) dX4_lookAt_92 (by decide) (fun c92 => ?_) (fun c92 => ?_)
          · refine zw_iinc dX4_lookAt_110 rfl (by decide) rfl ?_
            refine zw_goto (tgt := 25) dX4_lookAt_113 (by decide) ?_
            rw [nI_clamp (show t < 2 ^ 31 by omega), show zI (xLk σ f (zb g)) 22 t = _ from hw1] at c55
            replace c55 := zb_1.mp c55
            rw [nI_clamp (show t < 2 ^ 31 by omega), show zI (xLk σ f (zb g)) 23 t = _ from hw2] at c65
            replace c65 := zb_0.mp c65
            rw [nI_clamp (show t < 2 ^ 31 by omega), show zI (xLk σ f (zb g)) 22 t = _ from hw1] at c92
            replace c92 := zb_0.mp c92
            rw [c55] at c92
            exact absurd c92 (by decide)
          · refine zw_aload_n dX4_lookAt_95 rfl ?_
            refine zw_getR dX4_lookAt_96 zfX4_18 rfl (xk_21 h) (by decide) (xg_4_2 h) ?_
            refine zw_iload dX4_lookAt_99 rfl ?_
            refine zw_baload dX4_lookAt_101 (xk_24 h) (zin_of (xl_24 h) (vp_in_nI (by omega) (by omega))) ?_
            refine zw_ifeq (tgt := 110) dX4_lookAt_102 (by decide) (fun c102 => ?_) (fun c102 => ?_)
            · refine zw_iinc dX4_lookAt_110 rfl (by decide) rfl ?_
              refine zw_goto (tgt := 25) dX4_lookAt_113 (by decide) ?_
              rw [nI_clamp (show t < 2 ^ 31 by omega), show zI (xLk σ f (zb g)) 22 t = _ from hw1] at c55
              replace c55 := zb_1.mp c55
              rw [nI_clamp (show t < 2 ^ 31 by omega), show zI (xLk σ f (zb g)) 23 t = _ from hw2] at c65
              replace c65 := zb_0.mp c65
              rw [nI_clamp (show t < 2 ^ 31 by omega), show zI (xLk σ f (zb g)) 22 t = _ from hw1] at c92
              replace c92 := zb_1.mp c92
              rw [nI_clamp (show t < 2 ^ 31 by omega), show zI (xLk σ f (zb g)) 24 t = _ from hw3] at c102
              replace c102 := zb_0.mp c102
              simp only [lkI, lkG, c55, c65, c102, Bool.true_and, Bool.false_and, Bool.and_true, Bool.and_false, Bool.or_true, Bool.or_false, Bool.true_or, Bool.false_or, Bool.not_true, Bool.not_false] at hQ
              refine zw_loc (lc' := [(0, .ref 21), (1, .int (nI s)), (2, .ref 8), (3, .int (nI L)), (4, .int (nI i + 1))]) (zsub_cons rfl (zsub_cons rfl (zsub_cons rfl (zsub_cons rfl (zsub_cons rfl zsub_nil))))) ?_
              rw [nI_1]
              exact ih (i + 1) f g (by omega) hr' hQ
            · refine zw_aload_n dX4_lookAt_105 rfl ?_
              refine zw_iconst (x := 1) dX4_lookAt_106 rfl ?_
              refine zw_putI dX4_lookAt_107 zfX4_111 rfl rfl ⟨rfl, rfl⟩ (xk_21 h) (by decide) ?_
              refine zw_iinc dX4_lookAt_110 rfl (by decide) rfl ?_
              refine zw_goto (tgt := 25) dX4_lookAt_113 (by decide) ?_
              rw [nI_clamp (show t < 2 ^ 31 by omega), show zI (xLk σ f (zb g)) 22 t = _ from hw1] at c55
              replace c55 := zb_1.mp c55
              rw [nI_clamp (show t < 2 ^ 31 by omega), show zI (xLk σ f (zb g)) 23 t = _ from hw2] at c65
              replace c65 := zb_0.mp c65
              rw [nI_clamp (show t < 2 ^ 31 by omega), show zI (xLk σ f (zb g)) 22 t = _ from hw1] at c92
              replace c92 := zb_1.mp c92
              rw [nI_clamp (show t < 2 ^ 31 by omega), show zI (xLk σ f (zb g)) 24 t = _ from hw3] at c102
              replace c102 := zb_1.mp c102
              simp only [lkI, lkG, c55, c65, c102, Bool.true_and, Bool.false_and, Bool.and_true, Bool.and_false, Bool.or_true, Bool.or_false, Bool.true_or, Bool.false_or, Bool.not_true, Bool.not_false] at hQ
              refine zw_loc (lc' := [(0, .ref 21), (1, .int (nI s)), (2, .ref 8), (3, .int (nI L)), (4, .int (nI i + 1))]) (zsub_cons rfl (zsub_cons rfl (zsub_cons rfl (zsub_cons rfl (zsub_cons rfl zsub_nil))))) ?_
              rw [nI_1]
              rw [xLk_14]
              exact ih (i + 1) f true (by omega) hr' hQ
        · refine zw_aload_n dX4_lookAt_68 rfl ?_
          refine zw_dup dX4_lookAt_69 rfl ?_
          refine zw_getI dX4_lookAt_70 zfX4_108 rfl (xk_21 h) (by decide) ?_
          refine zw_iload dX4_lookAt_73 rfl ?_
          refine zw_callS (y' := zmX3_takersOf) dX4_lookAt_75 zlX4_122 zmX3_takersOf_ok (c_X3_takersOf _) rfl rfl (Nat.le_of_ble_eq_true rfl) ⟨Nat.le_of_ble_eq_true rfl, Nat.le_of_ble_eq_true rfl⟩ ⟨Nat.le_of_ble_eq_true rfl, Nat.le_of_ble_eq_true rfl⟩ ?_
          intro v75 s75 q75
          obtain ⟨rfl, z75⟩ := q75
          rw [z75]
          clear z75
          refine zw_ior dX4_lookAt_78 ?_
          refine zw_putI dX4_lookAt_79 zfX4_108 rfl rfl ⟨rfl, rfl⟩ (xk_21 h) (by decide) ?_
          refine zw_goto (tgt := 110) dX4_lookAt_82 (by decide) ?_
          refine zw_iinc dX4_lookAt_110 rfl (by decide) rfl ?_
          refine zw_goto (tgt := 25) dX4_lookAt_113 (by decide) ?_
          rw [nI_clamp (show t < 2 ^ 31 by omega), show zI (xLk σ f (zb g)) 22 t = _ from hw1] at c55
          replace c55 := zb_1.mp c55
          rw [nI_clamp (show t < 2 ^ 31 by omega), show zI (xLk σ f (zb g)) 23 t = _ from hw2] at c65
          replace c65 := zb_1.mp c65
          simp only [lkI, lkG, c55, c65, Bool.true_and, Bool.false_and, Bool.and_true, Bool.and_false, Bool.or_true, Bool.or_false, Bool.true_or, Bool.false_or, Bool.not_true, Bool.not_false] at hQ
          refine zw_loc (lc' := [(0, .ref 21), (1, .int (nI s)), (2, .ref 8), (3, .int (nI L)), (4, .int (nI i + 1))]) (zsub_cons rfl (zsub_cons rfl (zsub_cons rfl (zsub_cons rfl (zsub_cons rfl zsub_nil))))) ?_
          rw [nI_1]
          rw [xLk_13]
          exact ih (i + 1) _ g (by omega) hr' (fun f' _ => hQ f' (fun q => absurd q (by decide)))
set_option maxHeartbeats 4000000 in
set_option maxRecDepth 100000 in
theorem c_X4_lookAt {l : Launch} {σ : zS} (h : xSh σ) {pk n s F L : Nat} {w wa bad : Nat → Bool} (hpk : xPk σ pk) (hn : n ≤ 400) (hs : s < 400) (hF : zI σ 14 s = nI F) (hL : F + L ≤ zL σ pk) (hl : zL σ pk < 2 ^ 31) (hw : ∀ t, t < n → zI σ 22 t = zb (w t) ∧ zI σ 23 t = zb (wa t) ∧ zI σ 24 t = zb (bad t)) {E : List Nat} {f : Int32} {g : Bool} (hf : zF σ 4 13 21 = f) (hg : zF σ 4 14 21 = zb g) (hE : E.length = L) (hF2 : zI σ 14 (s + 1) = nI (F + L)) (hr : ∀ j t, E[j]? = some t → t < n ∧ xPart (zI σ pk (F + j)) 0 = nI t) : zAM l zmX4_lookAt 2 42 0 0 [.ref 21, .int (nI s), .ref 8] σ (fun v σ' => v = none ∧ ∃ f', (lkI w wa E = false → f' = f ||| (zI σ 13 s ^^^ -1)) ∧ σ' = xLk σ f' (zb (lkG w wa bad g E))) := by
  refine zAM.of (by decide +kernel) (Nat.le_of_ble_eq_true rfl) ?_
  refine zw_aload_n dX4_lookAt_0 rfl ?_
  refine zw_dup dX4_lookAt_1 rfl ?_
  refine zw_getI dX4_lookAt_2 zfX4_108 rfl (xk_21 h) (by decide) ?_
  refine zw_aload_n dX4_lookAt_5 rfl ?_
  refine zw_iload_n dX4_lookAt_6 rfl ?_
  refine zw_callV (y' := zmX3_takersIn) dX4_lookAt_7 zlX4_119 zmX3_takersIn_ok (xk_8 h) (by decide) rfl (c_X3_takersIn h hs) rfl rfl (Nat.le_of_ble_eq_true rfl) ⟨Nat.le_of_ble_eq_true rfl, Nat.le_of_ble_eq_true rfl⟩ ⟨Nat.le_of_ble_eq_true rfl, Nat.le_of_ble_eq_true rfl⟩ ?_
  intro v7 s7 q7
  obtain ⟨rfl, z7⟩ := q7
  rw [z7]
  clear z7
  refine zw_iconst (x := -1) dX4_lookAt_10 rfl ?_
  refine zw_ixor dX4_lookAt_11 ?_
  refine zw_ior dX4_lookAt_12 ?_
  refine zw_putI dX4_lookAt_13 zfX4_108 rfl rfl ⟨rfl, rfl⟩ (xk_21 h) (by decide) ?_
  rw [xLk_of σ (zb g) _ hg, hf]
  refine zw_aload_n dX4_lookAt_16 rfl ?_
  refine zw_iload_n dX4_lookAt_17 rfl ?_
  refine zw_callV (y' := zmX3_stepsOf) dX4_lookAt_18 zlX4_83 zmX3_stepsOf_ok (xk_8 h) (by decide) rfl (c_X3_stepsOf (σ := xLk σ _ _) h hs) rfl rfl (Nat.le_of_ble_eq_true rfl) ⟨Nat.le_of_ble_eq_true rfl, Nat.le_of_ble_eq_true rfl⟩ ⟨Nat.le_of_ble_eq_true rfl, Nat.le_of_ble_eq_true rfl⟩ ?_
  intro v18 s18 q18
  obtain ⟨rfl, z18⟩ := q18
  rw [z18]
  clear z18
  rw [show zI (xLk σ (f ||| (zI σ 13 s ^^^ -1)) (zb g)) = zI σ from rfl, hF2, hF, show nI (F + L) - nI F = nI L from by rw [Nat.add_comm, ← nI_add]; exact Int32.add_sub_cancel _ _]
  refine zw_istore_n dX4_lookAt_21 (by decide) rfl ?_
  refine zw_iconst (x := 0) dX4_lookAt_22 rfl ?_
  refine zw_istore dX4_lookAt_23 (by decide) rfl ?_
  refine zw_loc (lc' := [(0, .ref 21), (1, .int (nI s)), (2, .ref 8), (3, .int (nI L)), (4, .int (nI 0))]) (zsub_cons rfl (zsub_cons rfl (zsub_cons rfl (zsub_cons rfl (zsub_cons rfl zsub_nil))))) ?_
  exact lp_lookAt h hpk hn hs hF hL hl hw E 0 _ g (by omega) (fun j t q => by rw [Nat.zero_add]; exact hr j t q) (fun f' q => ⟨rfl, f', q, rfl⟩)
