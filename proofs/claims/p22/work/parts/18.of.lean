/-! all steps of a state -/
theorem xJ_by {σ0 σ : zS} {P p0 s pa a pk n T : Nat} {k : Int32} {po mc : Nat → Nat} {mid : Nat → Nat → Nat} (hP : P ≤ 3) (hm : ∀ q, q < P → mc q ≤ 6) (h : xJ σ0 p0 s k σ pk n T po) (hT : T + 18 ≤ 512000) :
    ∃ pk' n' T' po', xJ σ0 p0 s k (xBy σ0 P mc mid pa a k s σ) pk' n' T' po' ∧ xTo σ pk n T (xBy σ0 P mc mid pa a k s σ) pk' n' T' 18 := by
  unfold xBy
  split
  · obtain ⟨pk1, n1, T1, po1, h1, h2⟩ := xJ_stp h (by omega) (xAG σ0 a (xAD σ0 a k)) (xPm σ0 a)
    exact ⟨pk1, n1, T1, po1, h1, h2.wid (by omega)⟩
  · obtain ⟨pk1, n1, T1, po1, h1, h2⟩ := xJ_out (mc := mc) (mid := mid) (a := a) (aft := xAG σ0 a (xAD σ0 a k)) (P - (pa + 1)) (pa + 1) (fun q g1 g2 => hm q (by omega)) h (by omega)
    exact ⟨pk1, n1, T1, po1, h1, h2.wid (by omega)⟩
/-- the moves of the process p, from m on, d of them -/
def xMvI (σ0 : zS) (P : Nat) (mc : Nat → Nat) (mid : Nat → Nat → Nat) (k : Int32) (s p : Nat) : Nat → Nat → zS → zS
  | 0, _, σ => σ
  | d + 1, m, σ => xMvI σ0 P mc mid k s p d (m + 1) (if xOpen σ0 (mid p m) k = true then xBy σ0 P mc mid p (mid p m) k s σ else σ)
def xMvO (σ0 : zS) (P : Nat) (mc : Nat → Nat) (mid : Nat → Nat → Nat) (k : Int32) (s : Nat) : Nat → Nat → zS → zS
  | 0, _, σ => σ
  | d + 1, p, σ => xMvO σ0 P mc mid k s d (p + 1) (xMvI σ0 P mc mid k s p (mc p) 0 σ)
/-- all steps of the state s, which has the key k -/
def xOf (σ0 : zS) (P : Nat) (mc : Nat → Nat) (mid : Nat → Nat → Nat) (k : Int32) (s : Nat) (σ : zS) : zS :=
  zsI (xMvO σ0 P mc mid k s P 0 (zsI (zsI σ 13 s 0) 14 s (xT σ))) 14 (s + 1) (xT (xMvO σ0 P mc mid k s P 0 (zsI (zsI σ 13 s 0) 14 s (xT σ))))
theorem xJ_set {σ0 σ : zS} {p0 s pk n T : Nat} {k : Int32} {po : Nat → Nat} (h : xJ σ0 p0 s k σ pk n T po) {a : Nat} (ha : a = 13 ∨ a = 14) (i : Nat) (x : Int32) : xJ σ0 p0 s k (zsI σ a i x) pk n T po ∧ xTo σ pk n T (zsI σ a i x) pk n T 0 := by
  have e : ∀ b, b ≠ a → zI (zsI σ a i x) b = zI σ b := fun b hb => funext fun j => by rw [zI_zsI, if_neg (fun q => hb q.1)]
  have ht : xTo σ pk n T (zsI σ a i x) pk n T 0 := ⟨xFr.upd rfl rfl rfl (fun _ _ _ _ => rfl) rfl (fun b hb _ => e b (by omega)) rfl rfl, Nat.le_refl _, Nat.le_refl _, Nat.le_refl _, Nat.le_refl _, fun j _ => by rw [e 9 (by omega)]⟩
  obtain ⟨⟨h1, h2, h3, h4⟩, hj⟩ := id h
  exact ⟨h.to ⟨h1, h2, h3.congr (e 9 (by omega)) (e 15 (by omega)), h4⟩ ht, ht⟩
theorem xJ_mvI {σ0 : zS} {P p0 s p : Nat} {k : Int32} {mc : Nat → Nat} {mid : Nat → Nat → Nat} (hP : P ≤ 3) (hm : ∀ q, q < P → mc q ≤ 6) : ∀ (d m : Nat) {σ : zS} {pk n T : Nat} {po : Nat → Nat}, xJ σ0 p0 s k σ pk n T po → T + 18 * d ≤ 512000 → ∃ pk' n' T' po', xJ σ0 p0 s k (xMvI σ0 P mc mid k s p d m σ) pk' n' T' po' ∧ xTo σ pk n T (xMvI σ0 P mc mid k s p d m σ) pk' n' T' (18 * d)
  | 0, m, σ, pk, n, T, po, h, hT => ⟨pk, n, T, po, h, xTo.rf _ _ _ _ _⟩
  | d + 1, m, σ, pk, n, T, po, h, hT => by
    unfold xMvI
    split
    · obtain ⟨pk1, n1, T1, po1, h1, h2⟩ := xJ_by (pa := p) (a := mid p m) hP hm (mid := mid) h (by omega)
      obtain ⟨pk2, n2, T2, po2, h3, h4⟩ := xJ_mvI (p := p) (mid := mid) hP hm d (m + 1) h1 (by have := h2.2.2.2.1; omega)
      exact ⟨pk2, n2, T2, po2, h3, (h2.tr h4).wid (by omega)⟩
    · obtain ⟨pk2, n2, T2, po2, h3, h4⟩ := xJ_mvI (p := p) (mid := mid) hP hm d (m + 1) h (by omega)
      exact ⟨pk2, n2, T2, po2, h3, h4.wid (by omega)⟩
theorem xJ_mvO {σ0 : zS} {P p0 s : Nat} {k : Int32} {mc : Nat → Nat} {mid : Nat → Nat → Nat} (hP : P ≤ 3) (hm : ∀ q, q < P → mc q ≤ 6) : ∀ (d p : Nat) {σ : zS} {pk n T : Nat} {po : Nat → Nat}, p + d ≤ P → xJ σ0 p0 s k σ pk n T po → T + 108 * d ≤ 512000 → ∃ pk' n' T' po', xJ σ0 p0 s k (xMvO σ0 P mc mid k s d p σ) pk' n' T' po' ∧ xTo σ pk n T (xMvO σ0 P mc mid k s d p σ) pk' n' T' (108 * d)
  | 0, p, σ, pk, n, T, po, hd, h, hT => ⟨pk, n, T, po, h, xTo.rf _ _ _ _ _⟩
  | d + 1, p, σ, pk, n, T, po, hd, h, hT => by
    unfold xMvO
    have := hm p (by omega)
    obtain ⟨pk1, n1, T1, po1, h1, h2⟩ := xJ_mvI (p := p) (mid := mid) hP hm (mc p) 0 h (by omega)
    obtain ⟨pk2, n2, T2, po2, h3, h4⟩ := xJ_mvO (mid := mid) hP hm d (p + 1) (by omega) h1 (by have := h2.2.2.2.1; omega)
    exact ⟨pk2, n2, T2, po2, h3, (h2.tr h4).wid (by omega)⟩
theorem xJ_of {σ0 σ : zS} {P p0 s pk n T : Nat} {k : Int32} {po mc : Nat → Nat} {mid : Nat → Nat → Nat} (hP : P ≤ 3) (hm : ∀ q, q < P → mc q ≤ 6) (h : xJ σ0 p0 s k σ pk n T po) (hT : T + 324 ≤ 512000) :
    ∃ pk' n' T' po', xJ σ0 p0 s k (xOf σ0 P mc mid k s σ) pk' n' T' po' ∧ xTo σ pk n T (xOf σ0 P mc mid k s σ) pk' n' T' 324 := by
  obtain ⟨a1, a2⟩ := xJ_set h (Or.inl rfl) s 0
  obtain ⟨b1, b2⟩ := xJ_set a1 (Or.inr rfl) s (xT σ)
  obtain ⟨pk1, n1, T1, po1, h1, h2⟩ := xJ_mvO (mid := mid) hP hm P 0 (by omega) b1 (by omega)
  obtain ⟨c1, c2⟩ := xJ_set h1 (Or.inr rfl) (s + 1) (xT (xMvO σ0 P mc mid k s P 0 (zsI (zsI σ 13 s 0) 14 s (xT σ))))
  exact ⟨pk1, n1, T1, po1, c1, ((a2.tr b2).tr (h2.tr c2)).wid (by omega)⟩
set_option maxHeartbeats 4000000 in
set_option maxRecDepth 100000 in
theorem lp_Of_in {l : Launch} {σ0 : zS} {P p0 s : Nat} {k : Int32} {mc : Nat → Nat} {mid : Nat → Nat → Nat} (h0 : xSh σ0) (hp0 : p0 = 16 ∨ 30 ≤ p0) (hpro : xPro σ0 P mc mid) (hs : s < 400) {p : Nat} (hp : p < P) {C S : Nat} {Q : Option Value → zS → Prop} :
    ∀ (d m : Nat) (σ : zS) (pk n T : Nat) (po : Nat → Nat) (uc us : Nat), m + d = mc p → xJ σ0 p0 s k σ pk n T po → T + 18 * d ≤ 512000 → uc + (zn (xMvI σ0 P mc mid k s p d m σ) - zn σ) ≤ C → us + 2 * (xLen (xMvI σ0 P mc mid k s p d m σ) - xLen σ) ≤ S →
    (∀ uc' us', uc' = uc + (zn (xMvI σ0 P mc mid k s p d m σ) - zn σ) → us' = us + 2 * (xLen (xMvI σ0 P mc mid k s p d m σ) - xLen σ) → zAW l zmX3_addStepsOf { frames := 4, cells := C, slots := S, locals := 114 } 88 [(0, .ref 8), (1, .int (nI s)), (2, .ref 2), (3, .int k), (4, .int (nI p)), (5, .int (nI (mc p)))] [] (xMvI σ0 P mc mid k s p d m σ) uc' us' Q) →
    zAW l zmX3_addStepsOf { frames := 4, cells := C, slots := S, locals := 114 } 39 [(0, .ref 8), (1, .int (nI s)), (2, .ref 2), (3, .int k), (4, .int (nI p)), (5, .int (nI m))] [] σ uc us Q := by
  intro d
  induction d with
  | zero =>
    intro m σ pk n T po uc us hd hj hT hc1 hc2 hK
    have hd : m = mc p := hd
    subst hd
    have h := hj.1.1
    have hpr := hpro.fr h0 hp0 hj.2.1
    have hmc := hpr.2.2.1 p hp
    refine zw_iload dX3_addStepsOf_39 rfl ?_
    refine zw_aload_n dX3_addStepsOf_41 rfl ?_
    refine zw_iload dX3_addStepsOf_42 rfl ?_
    refine zw_callV (y' := zmX2_movesOf) dX3_addStepsOf_44 zlX3_81 zmX2_movesOf_ok (xk_2 h) (by decide) rfl (c_X2_movesOf h hpr.1 (Nat.le_trans hpr.2.1 (by decide)) hp) rfl rfl (Nat.le_of_ble_eq_true rfl) ⟨Nat.le_of_ble_eq_true rfl, Nat.le_of_ble_eq_true rfl⟩ ⟨by show _ ≤ C; omega, by show _ ≤ S; omega⟩ ?_
    intro v44 s44 q44
    obtain ⟨rfl, z44⟩ := q44
    rw [z44]
    clear z44
    rw [hmc.1]
    refine zw_icmpge (tgt := 88) dX3_addStepsOf_47 (by decide) (fun c47 => ?_) (fun c47 => ?_)
    · exact hK _ _ (by rw [show xMvI σ0 P mc mid k s p 0 (mc p) σ = σ from rfl]; omega) (by rw [show xMvI σ0 P mc mid k s p 0 (mc p) σ = σ from rfl]; omega)
    · exact absurd (nI_le (Nat.le_refl (mc p)) (by omega)) c47
  | succ d ih =>
    intro m σ pk n T po uc us hd hj hT hc1 hc2 hK
    have h := hj.1.1
    have hpr := hpro.fr h0 hp0 hj.2.1
    have hmc := hpr.2.2.1 p hp
    have hfF := hj.2.1.2.2.2.2.1
    have hmlt : m < mc p := by omega
    have hm16 : ∀ q, q < P → mc q ≤ 6 := fun q hq => (hpro.2.2.1 q hq).2
    obtain ⟨hb1, hb2, hb3, hb4⟩ := hpr.2.2.2 p m hp hmlt
    have eb := xOpen_fr hfF (mid p m) k
    refine zw_iload dX3_addStepsOf_39 rfl ?_
    refine zw_aload_n dX3_addStepsOf_41 rfl ?_
    refine zw_iload dX3_addStepsOf_42 rfl ?_
    refine zw_callV (y' := zmX2_movesOf) dX3_addStepsOf_44 zlX3_81 zmX2_movesOf_ok (xk_2 h) (by decide) rfl (c_X2_movesOf h hpr.1 (Nat.le_trans hpr.2.1 (by decide)) hp) rfl rfl (Nat.le_of_ble_eq_true rfl) ⟨Nat.le_of_ble_eq_true rfl, Nat.le_of_ble_eq_true rfl⟩ ⟨by show _ ≤ C; omega, by show _ ≤ S; omega⟩ ?_
    intro v44 s44 q44
    obtain ⟨rfl, z44⟩ := q44
    rw [z44]
    clear z44
    rw [hmc.1]
    refine zw_icmpge (tgt := 88) dX3_addStepsOf_47 (by decide) (fun c47 => ?_) (fun c47 => ?_)
    · exact absurd c47 (nI_ge hmlt (by omega))
    · refine zw_aload_n dX3_addStepsOf_50 rfl ?_
      refine zw_iload dX3_addStepsOf_51 rfl ?_
      refine zw_iload dX3_addStepsOf_53 rfl ?_
      refine zw_callV (y' := zmX2_find) dX3_addStepsOf_55 zlX3_84 zmX2_find_ok (xk_2 h) (by decide) rfl (c_X2_find h hpr.1 (Nat.le_trans hpr.2.1 (by decide)) hp hmc.1 hmlt (Nat.le_trans hmc.2 (by decide)) hb1) rfl rfl (Nat.le_of_ble_eq_true rfl) ⟨Nat.le_of_ble_eq_true rfl, Nat.le_of_ble_eq_true rfl⟩ ⟨by show _ ≤ C; omega, by show _ ≤ S; omega⟩ ?_
      intro v55 s55 q55
      obtain ⟨rfl, z55⟩ := q55
      rw [z55]
      clear z55
      refine zw_astore dX3_addStepsOf_58 (by decide) rfl ?_
      refine zw_aload dX3_addStepsOf_60 rfl ?_
      refine zw_ifnull dX3_addStepsOf_62 ?_
      refine zw_aload dX3_addStepsOf_65 rfl ?_
      refine zw_iload_n dX3_addStepsOf_67 rfl ?_
      refine zw_callV (y' := zmX1_isOpenIn) dX3_addStepsOf_68 zlX3_88 zmX1_isOpenIn_ok hb2 (by decide) rfl (c_X1_isOpenIn hb2 _) rfl rfl (Nat.le_of_ble_eq_true rfl) ⟨Nat.le_of_ble_eq_true rfl, Nat.le_of_ble_eq_true rfl⟩ ⟨by show _ ≤ C; omega, by show _ ≤ S; omega⟩ ?_
      intro v68 s68 q68
      obtain ⟨rfl, z68⟩ := q68
      rw [z68]
      clear z68
      refine zw_ifeq (tgt := 82) dX3_addStepsOf_71 (by decide) (fun c71 => ?_) (fun c71 => ?_)
      · rw [zb_0, eb.1] at c71
        have hstep : xMvI σ0 P mc mid k s p (d + 1) m σ = xMvI σ0 P mc mid k s p d (m + 1) σ := by
          rw [xMvI, if_neg (by rw [c71]; decide)]
        rw [hstep] at hc1 hc2 hK
        refine zw_iinc dX3_addStepsOf_82 rfl (by decide) rfl ?_
        refine zw_goto (tgt := 39) dX3_addStepsOf_85 (by decide) ?_
        refine zw_loc (lc' := [(0, .ref 8), (1, .int (nI s)), (2, .ref 2), (3, .int k), (4, .int (nI p)), (5, .int (nI m + 1))]) (zsub_cons rfl (zsub_cons rfl (zsub_cons rfl (zsub_cons rfl (zsub_cons rfl (zsub_cons rfl zsub_nil)))))) ?_
        rw [nI_1]
        exact ih (m + 1) σ pk n T po _ _ (by omega) hj (by omega) (by omega) (by omega) (fun uc' us' e1 e2 => hK uc' us' (by omega) (by omega))
      · rw [zb_1, eb.1] at c71
        have hstep : xMvI σ0 P mc mid k s p (d + 1) m σ = xMvI σ0 P mc mid k s p d (m + 1) (xBy σ0 P mc mid p (mid p m) k s σ) := by
          rw [xMvI, if_pos c71]
        rw [hstep] at hc1 hc2 hK
        obtain ⟨pk1, n1, T1, po1, hj1, hto⟩ := xJ_by (pa := p) (a := mid p m) hpro.2.1 hm16 (mid := mid) hj (by omega)
        obtain ⟨pk2, n2, T2, po2, hj2, hto2⟩ := xJ_mvI (p := p) (mid := mid) hpro.2.1 hm16 d (m + 1) hj1 (by have := hto.2.2.2.1; omega)
        have hz1 := hto.zn
        have hz2 := hto2.zn
        have hl1 := hto.len hj hj1
        have hl2 := hto2.len hj1 hj2
        refine zw_aload_n dX3_addStepsOf_74 rfl ?_
        refine zw_aload dX3_addStepsOf_75 rfl ?_
        refine zw_iload_n dX3_addStepsOf_77 rfl ?_
        refine zw_aload_n dX3_addStepsOf_78 rfl ?_
        refine zw_callV (y' := zmX3_addStepsBy) dX3_addStepsOf_79 zlX3_94 zmX3_addStepsBy_ok (xk_8 h) (by decide) rfl (c_X3_addStepsBy h0 hp0 hpro hp hmlt hs hj (by omega)) rfl rfl (Nat.le_of_ble_eq_true rfl) ⟨Nat.le_of_ble_eq_true rfl, Nat.le_of_ble_eq_true rfl⟩ ⟨by show _ ≤ C; omega, by show _ ≤ S; omega⟩ ?_
        intro v79 s79 q79
        obtain ⟨rfl, z79⟩ := q79
        rw [z79]
        clear z79
        
        refine zw_iinc dX3_addStepsOf_82 rfl (by decide) rfl ?_
        refine zw_goto (tgt := 39) dX3_addStepsOf_85 (by decide) ?_
        refine zw_loc (lc' := [(0, .ref 8), (1, .int (nI s)), (2, .ref 2), (3, .int k), (4, .int (nI p)), (5, .int (nI m + 1))]) (zsub_cons rfl (zsub_cons rfl (zsub_cons rfl (zsub_cons rfl (zsub_cons rfl (zsub_cons rfl zsub_nil)))))) ?_
        rw [nI_1]
        exact ih (m + 1) _ pk1 n1 T1 po1 _ _ (by omega) hj1 (by have := hto.2.2.2.1; omega) (by omega) (by omega) (fun uc' us' e1 e2 => hK uc' us' (by omega) (by omega))
set_option maxHeartbeats 4000000 in
set_option maxRecDepth 100000 in
theorem lp_Of_out {l : Launch} {σ0 : zS} {P p0 s : Nat} {k : Int32} {mc : Nat → Nat} {mid : Nat → Nat → Nat} (h0 : xSh σ0) (hp0 : p0 = 16 ∨ 30 ≤ p0) (hpro : xPro σ0 P mc mid) (hs : s < 400) {C S : Nat} {Q : Option Value → zS → Prop} :
    ∀ (d p : Nat) (σ : zS) (pk n T : Nat) (po : Nat → Nat) (uc us : Nat), p + d = P → xJ σ0 p0 s k σ pk n T po → T + 108 * d ≤ 512000 → uc + (zn (xMvO σ0 P mc mid k s d p σ) - zn σ) ≤ C → us + 2 * (xLen (xMvO σ0 P mc mid k s d p σ) - xLen σ) ≤ S → Q none (zsI (xMvO σ0 P mc mid k s d p σ) 14 (s + 1) (xT (xMvO σ0 P mc mid k s d p σ))) →
    zAW l zmX3_addStepsOf { frames := 4, cells := C, slots := S, locals := 114 } 27 [(0, .ref 8), (1, .int (nI s)), (2, .ref 2), (3, .int k), (4, .int (nI p))] [] σ uc us Q := by
  intro d
  induction d with
  | zero =>
    intro p σ pk n T po uc us hd hj hT hc1 hc2 hQ
    have hd : p = P := hd
    subst hd
    have h := hj.1.1
    have hpr := hpro.fr h0 hp0 hj.2.1
    refine zw_iload dX3_addStepsOf_27 rfl ?_
    refine zw_aload_n dX3_addStepsOf_29 rfl ?_
    refine zw_getI dX3_addStepsOf_30 zfX3_78 rfl (xk_2 h) (by decide) ?_
    rw [show zF σ 2 5 2 = nI p from hpr.1]
    refine zw_icmpge (tgt := 94) dX3_addStepsOf_33 (by decide) (fun c33 => ?_) (fun c33 => ?_)
    · refine zw_aload_n dX3_addStepsOf_94 rfl ?_
      refine zw_getR dX3_addStepsOf_95 zfX3_27 rfl (xk_8 h) (by decide) (xg_3_5 h) ?_
      refine zw_iload_n dX3_addStepsOf_98 rfl ?_
      refine zw_iconst (x := 1) dX3_addStepsOf_99 rfl ?_
      refine zw_iadd dX3_addStepsOf_100 ?_
      refine zw_aload_n dX3_addStepsOf_101 rfl ?_
      refine zw_getI dX3_addStepsOf_102 zfX3_44 rfl (xk_8 h) (by decide) ?_
      refine zw_iastore dX3_addStepsOf_105 (xk_14 h) (by decide) (zin_of (xl_14 h) (by rw [nI_1]; exact vp_in_nI (by omega) (by omega))) ?_
      refine zw_vret dX3_addStepsOf_106 rfl ?_
      rw [nI_1, nI_clamp (by omega)]
      exact hQ
    · exact absurd (nI_le (Nat.le_refl p) (by have := hpr.2.1; omega)) c33
  | succ d ih =>
    intro p σ pk n T po uc us hd hj hT hc1 hc2 hQ
    have h := hj.1.1
    have hpr := hpro.fr h0 hp0 hj.2.1
    have hP5 := hpr.2.1
    have hmc := hpr.2.2.1 p (by omega)
    have hm16 : ∀ q, q < P → mc q ≤ 6 := fun q hq => (hpro.2.2.1 q hq).2
    obtain ⟨pk1, n1, T1, po1, hj1, hto⟩ := xJ_mvI (p := p) (mid := mid) hpro.2.1 hm16 (mc p) 0 hj (by omega)
    obtain ⟨pk2, n2, T2, po2, hj2, hto2⟩ := xJ_mvO (mid := mid) hpro.2.1 hm16 d (p + 1) (by omega) hj1 (by have := hto.2.2.2.1; omega)
    have hz1 := hto.zn
    have hz2 := hto2.zn
    have hl1 := hto.len hj hj1
    have hl2 := hto2.len hj1 hj2
    rw [xMvO] at hc1 hc2 hQ
    refine zw_iload dX3_addStepsOf_27 rfl ?_
    refine zw_aload_n dX3_addStepsOf_29 rfl ?_
    refine zw_getI dX3_addStepsOf_30 zfX3_78 rfl (xk_2 h) (by decide) ?_
    rw [show zF σ 2 5 2 = nI P from hpr.1]
    refine zw_icmpge (tgt := 94) dX3_addStepsOf_33 (by decide) (fun c33 => ?_) (fun c33 => ?_)
    · exact absurd c33 (nI_ge (show p < P by omega) (by omega))
    · refine zw_iconst (x := 0) dX3_addStepsOf_36 rfl ?_
      refine zw_istore dX3_addStepsOf_37 (by decide) rfl ?_
      refine zw_loc (lc' := [(0, .ref 8), (1, .int (nI s)), (2, .ref 2), (3, .int k), (4, .int (nI p)), (5, .int (nI 0))]) (zsub_cons rfl (zsub_cons rfl (zsub_cons rfl (zsub_cons rfl (zsub_cons rfl (zsub_cons rfl zsub_nil)))))) ?_
      refine lp_Of_in h0 hp0 hpro hs (by omega) (mc p) 0 σ pk n T po _ _ (Nat.zero_add _) hj (by omega) (by omega) (by omega) (fun uc1 us1 e1 e2 => ?_)
      refine zw_iinc dX3_addStepsOf_88 rfl (by decide) rfl ?_
      refine zw_goto (tgt := 27) dX3_addStepsOf_91 (by decide) ?_
      refine zw_loc (lc' := [(0, .ref 8), (1, .int (nI s)), (2, .ref 2), (3, .int k), (4, .int (nI p + 1))]) (zsub_cons rfl (zsub_cons rfl (zsub_cons rfl (zsub_cons rfl (zsub_cons rfl zsub_nil))))) ?_
      rw [nI_1]
      exact ih (p + 1) _ pk1 n1 T1 po1 _ _ (by omega) hj1 (by have := hto.2.2.2.1; omega) (by omega) (by omega) hQ
set_option maxHeartbeats 4000000 in
set_option maxRecDepth 100000 in
theorem c_X3_addStepsOf {l : Launch} {σ : zS} {σ0 : zS} {P p0 s pk n T : Nat} {k : Int32} {po mc : Nat → Nat} {mid : Nat → Nat → Nat} (h0 : xSh σ0) (hp0 : p0 = 16 ∨ 30 ≤ p0) (hpro : xPro σ0 P mc mid) (hs : s < 400) (hj : xJ σ0 p0 s k σ pk n T po) (hT : T + 324 ≤ 512000) : zAM l zmX3_addStepsOf 4 114 (zn (xOf σ0 P mc mid k s σ) - zn σ) (2 * (xLen (xOf σ0 P mc mid k s σ) - xLen σ)) [.ref 8, .int (nI s), .ref 2] σ (fun v σ' => v = none ∧ σ' = xOf σ0 P mc mid k s σ) := by
  refine zAM.of (by decide +kernel) (Nat.le_of_ble_eq_true rfl) ?_
  have h := hj.1.1
  have hP5 := hpro.2.1
  obtain ⟨a1, a2⟩ := xJ_set hj (Or.inl rfl) s 0
  obtain ⟨b1, b2⟩ := xJ_set a1 (Or.inr rfl) s (xT σ)
  refine zw_aload_n dX3_addStepsOf_0 rfl ?_
  refine zw_getR dX3_addStepsOf_1 zfX3_11 rfl (xk_8 h) (by decide) (xg_3_0 h) ?_
  refine zw_iload_n dX3_addStepsOf_4 rfl ?_
  refine zw_iaload dX3_addStepsOf_5 (xk_9 h) (zin_of (xl_9 h) (vp_in_nI (by omega) (by omega))) ?_
  rw [nI_clamp (n := s) (by omega), hj.2.2.1]
  refine zw_istore_n dX3_addStepsOf_6 (by decide) rfl ?_
  refine zw_aload_n dX3_addStepsOf_7 rfl ?_
  refine zw_getR dX3_addStepsOf_8 zfX3_24 rfl (xk_8 h) (by decide) (xg_3_4 h) ?_
  refine zw_iload_n dX3_addStepsOf_11 rfl ?_
  refine zw_iconst (x := 0) dX3_addStepsOf_12 rfl ?_
  refine zw_iastore dX3_addStepsOf_13 (xk_13 h) (by decide) (zin_of (xl_13 h) (vp_in_nI (by omega) (by omega))) ?_
  rw [nI_clamp (n := s) (by omega)]
  refine zw_aload_n dX3_addStepsOf_14 rfl ?_
  refine zw_getR dX3_addStepsOf_15 zfX3_27 rfl (xk_8 h) (by decide) (xg_3_5 h) ?_
  refine zw_iload_n dX3_addStepsOf_18 rfl ?_
  refine zw_aload_n dX3_addStepsOf_19 rfl ?_
  refine zw_getI dX3_addStepsOf_20 zfX3_44 rfl (xk_8 h) (by decide) ?_
  refine zw_iastore dX3_addStepsOf_23 (xk_14 h) (by decide) (zin_of (xl_14 h) (vp_in_nI (by omega) (by omega))) ?_
  refine zw_iconst (x := 0) dX3_addStepsOf_24 rfl ?_
  refine zw_istore dX3_addStepsOf_25 (by decide) rfl ?_
  rw [nI_clamp (n := s) (by omega)]
  refine zw_loc (lc' := [(0, .ref 8), (1, .int (nI s)), (2, .ref 2), (3, .int k), (4, .int (nI 0))]) (zsub_cons rfl (zsub_cons rfl (zsub_cons rfl (zsub_cons rfl (zsub_cons rfl zsub_nil))))) ?_
  exact lp_Of_out h0 hp0 hpro hs P 0 (zsI (zsI σ 13 s 0) 14 s (xT σ)) pk n T po 0 0 (Nat.zero_add P) b1 (by omega) (Nat.le_of_eq (Nat.zero_add _)) (Nat.le_of_eq (Nat.zero_add _)) ⟨rfl, rfl⟩
