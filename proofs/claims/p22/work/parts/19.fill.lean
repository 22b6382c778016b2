/-! the exploring -/
/-- the key of the beginning: the variables from v on, d of them, laid into k -/
def xKb (σ : zS) : Nat → Nat → Int32 → Int32
  | 0, _, k => k
  | d + 1, v, k => xKb σ d (v + 1) (xWVal k (nI v) (zI σ 7 v))
set_option maxHeartbeats 4000000 in
set_option maxRecDepth 100000 in
theorem lp_key {l : Launch} {σ : zS} {V : Nat} (h : xSh σ) (hV : xV σ = nI V) (hV4 : V ≤ 4) {Q : Option Value → zS → Prop} : ∀ (d v : Nat) (k : Int32), v + d = V → Q (some (.int (xKb σ d v k))) σ → zAW l zmX2_keyAtBeginning { frames := 1, cells := 0, slots := 0, locals := 23 } 4 [(0, .ref 2), (1, .int k), (2, .int (nI v))] [] σ 0 0 Q := by
  intro d
  induction d with
  | zero =>
    intro v k hd hQ
    have hd : v = V := hd
    subst hd
    refine zw_iload_n dX2_keyAtBeginning_4 rfl ?_
    refine zw_aload_n dX2_keyAtBeginning_5 rfl ?_
    refine zw_getI dX2_keyAtBeginning_6 zfX2_38 rfl (xk_2 h) (by decide) ?_
    rw [show zF σ 2 6 2 = nI v from hV]
    refine zw_icmpge (tgt := 30) dX2_keyAtBeginning_9 (by decide) (fun c9 => ?_) (fun c9 => ?_)
    · refine zw_iload_n dX2_keyAtBeginning_30 rfl ?_
      refine zw_iret dX2_keyAtBeginning_31 rfl rfl ?_
      exact hQ
    · exact absurd (nI_le (Nat.le_refl v) (by omega)) c9
  | succ d ih =>
    intro v k hd hQ
    refine zw_iload_n dX2_keyAtBeginning_4 rfl ?_
    refine zw_aload_n dX2_keyAtBeginning_5 rfl ?_
    refine zw_getI dX2_keyAtBeginning_6 zfX2_38 rfl (xk_2 h) (by decide) ?_
    rw [show zF σ 2 6 2 = nI V from hV]
    refine zw_icmpge (tgt := 30) dX2_keyAtBeginning_9 (by decide) (fun c9 => ?_) (fun c9 => ?_)
    · exact absurd c9 (nI_ge (show v < V by omega) (by omega))
    · refine zw_iload_n dX2_keyAtBeginning_12 rfl ?_
      refine zw_iload_n dX2_keyAtBeginning_13 rfl ?_
      refine zw_aload_n dX2_keyAtBeginning_14 rfl ?_
      refine zw_getR dX2_keyAtBeginning_15 zfX2_27 rfl (xk_2 h) (by decide) (xg_2_4 h) ?_
      refine zw_iload_n dX2_keyAtBeginning_18 rfl ?_
      refine zw_iaload dX2_keyAtBeginning_19 (xk_7 h) (zin_of (xl_7 h) (vp_in_nI (by omega) (by omega))) ?_
      rw [nI_clamp (n := v) (by omega)]
      refine zw_callS (y' := zmX5_withValue) dX2_keyAtBeginning_20 zlX2_51 zmX5_withValue_ok (c_X5_withValue _ _ _) rfl rfl (Nat.le_of_ble_eq_true rfl) ⟨Nat.le_of_ble_eq_true rfl, Nat.le_of_ble_eq_true rfl⟩ ⟨Nat.le_of_ble_eq_true rfl, Nat.le_of_ble_eq_true rfl⟩ ?_
      intro v20 s20 q20
      obtain ⟨rfl, z20⟩ := q20
      rw [z20]
      clear z20
      refine zw_istore_n dX2_keyAtBeginning_23 (by decide) rfl ?_
      refine zw_iinc dX2_keyAtBeginning_24 rfl (by decide) rfl ?_
      refine zw_goto (tgt := 4) dX2_keyAtBeginning_27 (by decide) ?_
      refine zw_loc (lc' := [(0, .ref 2), (1, .int (xWVal k (nI v) (zI σ 7 v))), (2, .int (nI v + 1))]) (zsub_cons rfl (zsub_cons rfl (zsub_cons rfl zsub_nil))) ?_
      rw [nI_1]
      exact ih (v + 1) _ (by omega) hQ
set_option maxHeartbeats 4000000 in
set_option maxRecDepth 100000 in
theorem c_X2_keyAtBeginning {l : Launch} {σ : zS} {V : Nat} (h : xSh σ) (hV : xV σ = nI V) (hV4 : V ≤ 4) : zAM l zmX2_keyAtBeginning 1 23 0 0 [.ref 2] σ (fun v σ' => v = some (.int (xKb σ V 0 0)) ∧ σ' = σ) := by
  refine zAM.of (by decide +kernel) (Nat.le_of_ble_eq_true rfl) ?_
  refine zw_iconst (x := 0) dX2_keyAtBeginning_0 rfl ?_
  refine zw_istore_n dX2_keyAtBeginning_1 (by decide) rfl ?_
  refine zw_iconst (x := 0) dX2_keyAtBeginning_2 rfl ?_
  refine zw_istore_n dX2_keyAtBeginning_3 (by decide) rfl ?_
  refine zw_loc (lc' := [(0, .ref 2), (1, .int 0), (2, .int (nI 0))]) (zsub_cons rfl (zsub_cons rfl (zsub_cons rfl zsub_nil))) ?_
  exact lp_key h hV hV4 V 0 0 (Nat.zero_add V) ⟨rfl, rfl⟩
theorem xKb_congr {σ σ' : zS} (h : zI σ' 7 = zI σ 7) : ∀ (d v : Nat) (k : Int32), xKb σ' d v k = xKb σ d v k
  | 0, v, k => rfl
  | d + 1, v, k => by rw [xKb, xKb, h]; exact xKb_congr h d (v + 1) _
/-- everything forgotten, every slot free -/
def xClr (σ : zS) : zS := zsW (zsF (zsF (zsF σ 3 8 8 0) 3 9 8 0) 3 10 8 0) 15 (fun j => if 0 ≤ j ∧ j < 1024 then -1 else zI σ 15 j)
/-- the state 0 laid -/
def xBg (σ : zS) (k : Int32) : zS := xNew (xClr σ) k (xHash k) 0 0 0
/-- state by state, from s on, while there are such -/
def xFl (σ0 : zS) (P : Nat) (mc : Nat → Nat) (mid : Nat → Nat → Nat) : Nat → Nat → zS → zS
  | 0, _, σ => σ
  | d + 1, s, σ => if nI s < xS σ ∧ zF σ 3 10 8 = 0 then xFl σ0 P mc mid d (s + 1) (xOf σ0 P mc mid (zI σ 9 s) s σ) else σ
/-- the heap behind the exploring, and what it answers -/
def xEnd (σ : zS) : zS := if zF σ 3 10 8 = 0 then σ else zsF (zsF (zsF σ 3 8 8 0) 3 9 8 0) 3 10 8 0
def xAns (σ : zS) : Int32 := if zF σ 3 10 8 = 0 then xS σ else -1
def xG (σ0 : zS) (p0 : Nat) (σ : zS) (pk n T : Nat) (po : Nat → Nat) : Prop := xI σ pk n T po ∧ xFr σ0 σ p0 pk
theorem xClr_I (σ : zS) {a : Nat} (h : a ≠ 15) : zI (xClr σ) a = zI σ a := funext fun j => by
  unfold xClr
  rw [zI_zsW, if_neg h, zI_zsF, zI_zsF, zI_zsF]
theorem xClr_15 (σ : zS) {j : Nat} (h : j < 1024) : zI (xClr σ) 15 j = -1 := by
  unfold xClr
  rw [zI_zsW, if_pos rfl, if_pos ⟨Nat.zero_le _, h⟩]
theorem xClr_S (σ : zS) : xS (xClr σ) = nI 0 := by
  unfold xS xClr
  rw [zF_zsW, zF_zsF, if_neg (by decide), zF_zsF, if_neg (by decide), zF_zsF, if_pos ⟨rfl, rfl, rfl⟩]
  rfl
theorem xClr_T (σ : zS) : xT (xClr σ) = nI 0 := by
  unfold xT xClr
  rw [zF_zsW, zF_zsF, if_neg (by decide), zF_zsF, if_pos ⟨rfl, rfl, rfl⟩]
  rfl
theorem xClr_hs (σ : zS) (po : Nat → Nat) : xHs (xClr σ) 0 po := ⟨fun t ht => Or.inl (xClr_15 σ ht), fun s hs => absurd hs (Nat.not_lt_zero s), fun s hs => absurd hs (Nat.not_lt_zero s), fun s s' hs => absurd hs (Nat.not_lt_zero s)⟩
theorem xClr_fr (σ : zS) (pk : Nat) : xFr σ (xClr σ) pk pk := xFr.upd rfl rfl rfl (fun c k a hc => by
  unfold xClr
  rw [zF_zsW, zF_zsF, if_neg (fun q => hc q.1), zF_zsF, if_neg (fun q => hc q.1), zF_zsF, if_neg (fun q => hc q.1)]) rfl (fun a ha _ => xClr_I σ (by omega)) rfl rfl
theorem xClr_slot (σ : zS) (k : Int32) : xProbe (xClr σ) k 1024 (xHash k) = xHash k := by
  rw [show (1024 : Nat) = 1023 + 1 from rfl, xProbe, if_pos (by rw [xClr_15 σ (xHash_lt k)]; exact m1_neg)]
theorem xBg_G {σ : zS} {pk : Nat} (h : xSh σ) (hpk : xPk σ pk) (hw : zWF σ) (hL : zL σ pk ≤ 2048) (hL1 : 1 ≤ zL σ pk) (k : Int32) : ∃ po, xG σ pk (xBg σ k) pk 1 0 po := by
  refine ⟨xPo (fun _ => 0) 0 (xHash k), ⟨h, hpk, ?_, xNew_S, by omega, ?_, Nat.zero_le _, hL1, Or.inl hL, hw⟩, (xClr_fr σ pk).tr (xNew_fr ..)⟩
  · exact (xClr_hs σ (fun _ => 0)).add (by omega) (fun s hs => absurd hs (Nat.not_lt_zero s)) (xClr_slot σ k)
  · rw [← xClr_T σ]
    unfold xBg xT xNew
    rw [zF_zsF, if_neg (by decide), zF_zsI, zF_zsI, zF_zsI, zF_zsI, zF_zsI]
theorem xG_of {σ0 σ : zS} {P p0 s pk n T : Nat} {po mc : Nat → Nat} {mid : Nat → Nat → Nat} (hP : P ≤ 3) (hm : ∀ q, q < P → mc q ≤ 6) (h : xG σ0 p0 σ pk n T po) (hs : s < n) (hT : T + 324 ≤ 512000) :
    ∃ pk' n' T' po', xG σ0 p0 (xOf σ0 P mc mid (zI σ 9 s) s σ) pk' n' T' po' ∧ xTo σ pk n T (xOf σ0 P mc mid (zI σ 9 s) s σ) pk' n' T' 324 ∧ xJ σ0 p0 s (zI σ 9 s) σ pk n T po ∧ xJ σ0 p0 s (zI σ 9 s) (xOf σ0 P mc mid (zI σ 9 s) s σ) pk' n' T' po' := by
  have hj : xJ σ0 p0 s (zI σ 9 s) σ pk n T po := ⟨h.1, h.2, rfl, hs⟩
  obtain ⟨pk1, n1, T1, po1, h1, h2⟩ := xJ_of (mid := mid) hP hm hj hT
  exact ⟨pk1, n1, T1, po1, ⟨h1.1, h1.2.1⟩, h2, hj, h1⟩
theorem xG_lt {σ0 σ : zS} {p0 pk n T : Nat} {po : Nat → Nat} (h : xG σ0 p0 σ pk n T po) {s : Nat} (hs : s < 2 ^ 31) : nI s < xS σ ↔ s < n := by
  rw [h.1.2.2.2.1]
  exact nI_ltI hs (by have := h.1.2.2.2.2.1; omega)
set_option maxRecDepth 100000 in
theorem xG_fl {σ0 : zS} {P p0 : Nat} {mc : Nat → Nat} {mid : Nat → Nat → Nat} (hP : P ≤ 3) (hm : ∀ q, q < P → mc q ≤ 6) : ∀ (d s : Nat) {σ : zS} {pk n T : Nat} {po : Nat → Nat}, s + d = 400 → xG σ0 p0 σ pk n T po → T + 324 * d ≤ 512000 → ∃ pk' n' T' po', xG σ0 p0 (xFl σ0 P mc mid d s σ) pk' n' T' po' ∧ zn σ ≤ zn (xFl σ0 P mc mid d s σ) ∧ xLen σ ≤ xLen (xFl σ0 P mc mid d s σ)
  | 0, s, σ, pk, n, T, po, hd, h, hT => ⟨pk, n, T, po, h, Nat.le_refl _, Nat.le_refl _⟩
  | d + 1, s, σ, pk, n, T, po, hd, h, hT => by
    unfold xFl
    split
    · rename_i hc
      have hs := (xG_lt h (by omega)).mp hc.1
      obtain ⟨pk1, n1, T1, po1, h1, h2, h3, h4⟩ := xG_of (mid := mid) hP hm h hs (by omega)
      obtain ⟨pk2, n2, T2, po2, g1, g2, g3⟩ := xG_fl (mid := mid) hP hm d (s + 1) (by omega) h1 (by have := h2.2.2.2.1; omega)
      exact ⟨pk2, n2, T2, po2, g1, Nat.le_trans h2.zn g2, Nat.le_trans (h2.len h3 h4) g3⟩
    · exact ⟨pk, n, T, po, h, Nat.le_refl _, Nat.le_refl _⟩
set_option maxHeartbeats 4000000 in
set_option maxRecDepth 100000 in
theorem lp_fill_states {l : Launch} {σ0 : zS} {P p0 : Nat} {k : Int32} {mc : Nat → Nat} {mid : Nat → Nat → Nat} (h0 : xSh σ0) (hp0 : p0 = 16 ∨ 30 ≤ p0) (hpro : xPro σ0 P mc mid) {C S : Nat} {Q : Option Value → zS → Prop} :
    ∀ (d s : Nat) (σ : zS) (pk n T : Nat) (po : Nat → Nat) (uc us : Nat), s + d = 400 → xG σ0 p0 σ pk n T po → T + 324 * d ≤ 512000 → uc + (zn (xFl σ0 P mc mid d s σ) - zn σ) ≤ C → us + 2 * (xLen (xFl σ0 P mc mid d s σ) - xLen σ) ≤ S → Q (some (.int (xAns (xFl σ0 P mc mid d s σ)))) (xEnd (xFl σ0 P mc mid d s σ)) →
    zAW l zmX3_fill { frames := 5, cells := C, slots := S, locals := 140 } 31 [(0, .ref 8), (1, .ref 2), (2, .int k), (3, .int (nI s))] [] σ uc us Q := by
  intro d
  induction d with
  | zero =>
    intro s σ pk n T po uc us hd hg hT hc1 hc2 hQ
    have hd : s = 400 := hd
    subst hd
    have h := hg.1.1
    rw [show xFl σ0 P mc mid 0 400 σ = σ from rfl] at hc1 hc2 hQ
    refine zw_iload_n dX3_fill_31 rfl ?_
    refine zw_aload_n dX3_fill_32 rfl ?_
    refine zw_getI dX3_fill_33 zfX3_36 rfl (xk_8 h) (by decide) ?_
    refine zw_icmpge (tgt := 65) dX3_fill_36 (by decide) (fun c36 => ?_) (fun c36 => ?_)
    · refine zw_aload_n dX3_fill_65 rfl ?_
      refine zw_getI dX3_fill_66 zfX3_47 rfl (xk_8 h) (by decide) ?_
      refine zw_ifeq (tgt := 78) dX3_fill_69 (by decide) (fun c69 => ?_) (fun c69 => ?_)
      · refine zw_aload_n dX3_fill_78 rfl ?_
        refine zw_getI dX3_fill_79 zfX3_36 rfl (xk_8 h) (by decide) ?_
        refine zw_iret dX3_fill_82 rfl rfl ?_
        have c69 : zF σ 3 10 8 = 0 := c69
        have e1 : xAns σ = xS σ := if_pos c69
        have e2 : xEnd σ = σ := if_pos c69
        rw [e1, e2] at hQ
        exact hQ
      · refine zw_aload_n dX3_fill_72 rfl ?_
        refine zw_callV (y' := zmX3_forget) dX3_fill_73 zlX3_51 zmX3_forget_ok (xk_8 h) (by decide) rfl (c_X3_forget h) rfl rfl (Nat.le_of_ble_eq_true rfl) ⟨Nat.le_of_ble_eq_true rfl, Nat.le_of_ble_eq_true rfl⟩ ⟨by show _ ≤ C; omega, by show _ ≤ S; omega⟩ ?_
        intro v73 s73 q73
        obtain ⟨rfl, z73⟩ := q73
        rw [z73]
        clear z73
        refine zw_iconst (x := -1) dX3_fill_76 rfl ?_
        refine zw_iret dX3_fill_77 rfl rfl ?_
        have e1 : xAns σ = -1 := if_neg c69
        have e2 : xEnd σ = zsF (zsF (zsF σ 3 8 8 0) 3 9 8 0) 3 10 8 0 := if_neg c69
        rw [e1, e2] at hQ
        exact hQ
    · refine zw_iload_n dX3_fill_39 rfl ?_
      refine zw_sipush (x := 400) dX3_fill_40 rfl ?_
      refine zw_icmpge (tgt := 65) dX3_fill_43 (by decide) (fun c43 => ?_) (fun c43 => ?_)
      · refine zw_aload_n dX3_fill_65 rfl ?_
        refine zw_getI dX3_fill_66 zfX3_47 rfl (xk_8 h) (by decide) ?_
        refine zw_ifeq (tgt := 78) dX3_fill_69 (by decide) (fun c69 => ?_) (fun c69 => ?_)
        · refine zw_aload_n dX3_fill_78 rfl ?_
          refine zw_getI dX3_fill_79 zfX3_36 rfl (xk_8 h) (by decide) ?_
          refine zw_iret dX3_fill_82 rfl rfl ?_
          have c69 : zF σ 3 10 8 = 0 := c69
          have e1 : xAns σ = xS σ := if_pos c69
          have e2 : xEnd σ = σ := if_pos c69
          rw [e1, e2] at hQ
          exact hQ
        · refine zw_aload_n dX3_fill_72 rfl ?_
          refine zw_callV (y' := zmX3_forget) dX3_fill_73 zlX3_51 zmX3_forget_ok (xk_8 h) (by decide) rfl (c_X3_forget h) rfl rfl (Nat.le_of_ble_eq_true rfl) ⟨Nat.le_of_ble_eq_true rfl, Nat.le_of_ble_eq_true rfl⟩ ⟨by show _ ≤ C; omega, by show _ ≤ S; omega⟩ ?_
          intro v73 s73 q73
          obtain ⟨rfl, z73⟩ := q73
          rw [z73]
          clear z73
          refine zw_iconst (x := -1) dX3_fill_76 rfl ?_
          refine zw_iret dX3_fill_77 rfl rfl ?_
          have e1 : xAns σ = -1 := if_neg c69
          have e2 : xEnd σ = zsF (zsF (zsF σ 3 8 8 0) 3 9 8 0) 3 10 8 0 := if_neg c69
          rw [e1, e2] at hQ
          exact hQ
      · exact absurd (nI_le (Nat.le_refl 400) (by decide)) c43
  | succ d ih =>
    intro s σ pk n T po uc us hd hg hT hc1 hc2 hQ
    have h := hg.1.1
    have hm16 : ∀ q, q < P → mc q ≤ 6 := fun q hq => (hpro.2.2.1 q hq).2
    refine zw_iload_n dX3_fill_31 rfl ?_
    refine zw_aload_n dX3_fill_32 rfl ?_
    refine zw_getI dX3_fill_33 zfX3_36 rfl (xk_8 h) (by decide) ?_
    refine zw_icmpge (tgt := 65) dX3_fill_36 (by decide) (fun c36 => ?_) (fun c36 => ?_)
    · have hst : xFl σ0 P mc mid (d + 1) s σ = σ := by
        rw [xFl, if_neg (fun q => absurd (show xS σ ≤ nI s from c36) (Int32.not_le.mpr q.1))]
      rw [hst] at hc1 hc2 hQ
      refine zw_aload_n dX3_fill_65 rfl ?_
      refine zw_getI dX3_fill_66 zfX3_47 rfl (xk_8 h) (by decide) ?_
      refine zw_ifeq (tgt := 78) dX3_fill_69 (by decide) (fun c69 => ?_) (fun c69 => ?_)
      · refine zw_aload_n dX3_fill_78 rfl ?_
        refine zw_getI dX3_fill_79 zfX3_36 rfl (xk_8 h) (by decide) ?_
        refine zw_iret dX3_fill_82 rfl rfl ?_
        have c69 : zF σ 3 10 8 = 0 := c69
        have e1 : xAns σ = xS σ := if_pos c69
        have e2 : xEnd σ = σ := if_pos c69
        rw [e1, e2] at hQ
        exact hQ
      · refine zw_aload_n dX3_fill_72 rfl ?_
        refine zw_callV (y' := zmX3_forget) dX3_fill_73 zlX3_51 zmX3_forget_ok (xk_8 h) (by decide) rfl (c_X3_forget h) rfl rfl (Nat.le_of_ble_eq_true rfl) ⟨Nat.le_of_ble_eq_true rfl, Nat.le_of_ble_eq_true rfl⟩ ⟨by show _ ≤ C; omega, by show _ ≤ S; omega⟩ ?_
        intro v73 s73 q73
        obtain ⟨rfl, z73⟩ := q73
        rw [z73]
        clear z73
        refine zw_iconst (x := -1) dX3_fill_76 rfl ?_
        refine zw_iret dX3_fill_77 rfl rfl ?_
        have e1 : xAns σ = -1 := if_neg c69
        have e2 : xEnd σ = zsF (zsF (zsF σ 3 8 8 0) 3 9 8 0) 3 10 8 0 := if_neg c69
        rw [e1, e2] at hQ
        exact hQ
    · refine zw_iload_n dX3_fill_39 rfl ?_
      refine zw_sipush (x := 400) dX3_fill_40 rfl ?_
      refine zw_icmpge (tgt := 65) dX3_fill_43 (by decide) (fun c43 => ?_) (fun c43 => ?_)
      · exact absurd c43 (show ¬ (400 : Int32) ≤ nI s from nI_ge (show s < 400 by omega) (by decide))
      · refine zw_aload_n dX3_fill_46 rfl ?_
        refine zw_getI dX3_fill_47 zfX3_47 rfl (xk_8 h) (by decide) ?_
        refine zw_ifne (tgt := 65) dX3_fill_50 (by decide) (fun c50 => ?_) (fun c50 => ?_)
        · have hst : xFl σ0 P mc mid (d + 1) s σ = σ := by
            rw [xFl, if_neg (fun q => c50 q.2)]
          rw [hst] at hc1 hc2 hQ
          refine zw_aload_n dX3_fill_65 rfl ?_
          refine zw_getI dX3_fill_66 zfX3_47 rfl (xk_8 h) (by decide) ?_
          refine zw_ifeq (tgt := 78) dX3_fill_69 (by decide) (fun c69 => ?_) (fun c69 => ?_)
          · refine zw_aload_n dX3_fill_78 rfl ?_
            refine zw_getI dX3_fill_79 zfX3_36 rfl (xk_8 h) (by decide) ?_
            refine zw_iret dX3_fill_82 rfl rfl ?_
            have c69 : zF σ 3 10 8 = 0 := c69
            have e1 : xAns σ = xS σ := if_pos c69
            have e2 : xEnd σ = σ := if_pos c69
            rw [e1, e2] at hQ
            exact hQ
          · refine zw_aload_n dX3_fill_72 rfl ?_
            refine zw_callV (y' := zmX3_forget) dX3_fill_73 zlX3_51 zmX3_forget_ok (xk_8 h) (by decide) rfl (c_X3_forget h) rfl rfl (Nat.le_of_ble_eq_true rfl) ⟨Nat.le_of_ble_eq_true rfl, Nat.le_of_ble_eq_true rfl⟩ ⟨by show _ ≤ C; omega, by show _ ≤ S; omega⟩ ?_
            intro v73 s73 q73
            obtain ⟨rfl, z73⟩ := q73
            rw [z73]
            clear z73
            refine zw_iconst (x := -1) dX3_fill_76 rfl ?_
            refine zw_iret dX3_fill_77 rfl rfl ?_
            have e1 : xAns σ = -1 := if_neg c69
            have e2 : xEnd σ = zsF (zsF (zsF σ 3 8 8 0) 3 9 8 0) 3 10 8 0 := if_neg c69
            rw [e1, e2] at hQ
            exact hQ
        · have c50 : zF σ 3 10 8 = 0 := c50
          have hsl : nI s < xS σ := Int32.not_le.mp c36
          have hst : xFl σ0 P mc mid (d + 1) s σ = xFl σ0 P mc mid d (s + 1) (xOf σ0 P mc mid (zI σ 9 s) s σ) := by
            rw [xFl, if_pos ⟨hsl, c50⟩]
          rw [hst] at hc1 hc2 hQ
          obtain ⟨pk1, n1, T1, po1, hg1, hto, hj, hj1⟩ := xG_of (mid := mid) hpro.2.1 hm16 hg ((xG_lt hg (by omega)).mp hsl) (by omega)
          obtain ⟨pk2, n2, T2, po2, hg2, hz2, hl2⟩ := xG_fl (mid := mid) hpro.2.1 hm16 d (s + 1) (by omega) hg1 (by have := hto.2.2.2.1; omega)
          have hz1 := hto.zn
          have hl1 := hto.len hj hj1
          refine zw_aload_n dX3_fill_53 rfl ?_
          refine zw_iload_n dX3_fill_54 rfl ?_
          refine zw_aload_n dX3_fill_55 rfl ?_
          refine zw_callV (y' := zmX3_addStepsOf) dX3_fill_56 zlX3_74 zmX3_addStepsOf_ok (xk_8 h) (by decide) rfl (c_X3_addStepsOf h0 hp0 hpro (by omega) hj (by omega)) rfl rfl (Nat.le_of_ble_eq_true rfl) ⟨Nat.le_of_ble_eq_true rfl, Nat.le_of_ble_eq_true rfl⟩ ⟨by show _ ≤ C; omega, by show _ ≤ S; omega⟩ ?_
          intro v56 s56 q56
          obtain ⟨rfl, z56⟩ := q56
          rw [z56]
          clear z56
          refine zw_iinc dX3_fill_59 rfl (by decide) rfl ?_
          refine zw_goto (tgt := 31) dX3_fill_62 (by decide) ?_
          refine zw_loc (lc' := [(0, .ref 8), (1, .ref 2), (2, .int k), (3, .int (nI s + 1))]) (zsub_cons rfl (zsub_cons rfl (zsub_cons rfl (zsub_cons rfl zsub_nil)))) ?_
          rw [nI_1]
          exact ih (s + 1) _ pk1 n1 T1 po1 _ _ (by omega) hg1 (by have := hto.2.2.2.1; omega) (by omega) (by omega) hQ
set_option maxHeartbeats 4000000 in
set_option maxRecDepth 100000 in
theorem c_X3_fill {l : Launch} {σ : zS} {P V pk : Nat} {mc : Nat → Nat} {mid : Nat → Nat → Nat} (h : xSh σ) (hpk : xPk σ pk) (hL : zL σ pk ≤ 2048) (hL1 : 1 ≤ zL σ pk) (hpro : xPro σ P mc mid) (hV : xV σ = nI V) (hV4 : V ≤ 4) : zAM l zmX3_fill 5 140 (zn (xFl σ P mc mid 400 0 (xBg σ (xKb σ V 0 0))) - zn σ) (2 * (xLen (xFl σ P mc mid 400 0 (xBg σ (xKb σ V 0 0))) - xLen σ)) [.ref 8, .ref 2] σ (fun v σ' => v = some (.int (xAns (xFl σ P mc mid 400 0 (xBg σ (xKb σ V 0 0))))) ∧ σ' = xEnd (xFl σ P mc mid 400 0 (xBg σ (xKb σ V 0 0)))) := by
  refine zAM.of (by decide +kernel) (Nat.le_of_ble_eq_true rfl) ?_
  refine zw_wf (fun hw => ?_)
  have hm16 : ∀ q, q < P → mc q ≤ 6 := fun q hq => (hpro.2.2.1 q hq).2
  obtain ⟨po, hg⟩ := xBg_G h hpk hw hL hL1 (xKb σ V 0 0)
  refine zw_aload_n dX3_fill_0 rfl ?_
  refine zw_callV (y' := zmX3_forget) dX3_fill_1 zlX3_51 zmX3_forget_ok (xk_8 h) (by decide) rfl (c_X3_forget h) rfl rfl (Nat.le_of_ble_eq_true rfl) ⟨Nat.le_of_ble_eq_true rfl, Nat.le_of_ble_eq_true rfl⟩ ⟨Nat.le_trans (Nat.le_of_ble_eq_true rfl : _ ≤ 0) (Nat.zero_le _), Nat.le_trans (Nat.le_of_ble_eq_true rfl : _ ≤ 0) (Nat.zero_le _)⟩ ?_
  intro v1 s1 q1
  obtain ⟨rfl, z1⟩ := q1
  rw [z1]
  clear z1
  refine zw_aload_n dX3_fill_4 rfl ?_
  refine zw_getR dX3_fill_5 zfX3_30 rfl (xk_8 h) (by decide) (xg_3_6 h) ?_
  refine zw_iconst (x := -1) dX3_fill_8 rfl ?_
  refine zw_callS (y' := zmJ7_fill_53178) (F := 0) (Lc := 0) (mc := 0) (ms := 0) dX3_fill_9 zlX3_54 zmJ7_fill_53178_ok (c_J7_fill_53178 (σ := zsF (zsF (zsF σ 3 8 8 0) 3 9 8 0) 3 10 8 0) (a := 15) (L := 1024) (xk_15 h) (by decide) (xl_15 h) (by decide) (-1)) rfl rfl (Nat.le_of_ble_eq_true rfl) ⟨Nat.le_of_ble_eq_true rfl, Nat.le_of_ble_eq_true rfl⟩ ⟨Nat.le_trans (Nat.le_of_ble_eq_true rfl : _ ≤ 0) (Nat.zero_le _), Nat.le_trans (Nat.le_of_ble_eq_true rfl : _ ≤ 0) (Nat.zero_le _)⟩ ?_
  intro v9 s9 q9
  obtain ⟨rfl, z9⟩ := q9
  rw [z9]
  clear z9
  show zAW _ _ _ _ _ _ (xClr σ) _ _ _
  refine zw_aload_n dX3_fill_12 rfl ?_
  refine zw_callV (y' := zmX2_keyAtBeginning) dX3_fill_13 zlX3_60 zmX2_keyAtBeginning_ok (xk_2 h) (by decide) rfl (c_X2_keyAtBeginning (σ := xClr σ) (V := V) h ((show xV (xClr σ) = xV σ from (xClr_fr σ 0).2.2.2.2.1 2 6 2 (by decide)).trans hV) hV4) rfl rfl (Nat.le_of_ble_eq_true rfl) ⟨Nat.le_of_ble_eq_true rfl, Nat.le_of_ble_eq_true rfl⟩ ⟨Nat.le_trans (Nat.le_of_ble_eq_true rfl : _ ≤ 0) (Nat.zero_le _), Nat.le_trans (Nat.le_of_ble_eq_true rfl : _ ≤ 0) (Nat.zero_le _)⟩ ?_
  intro v13 s13 q13
  obtain ⟨rfl, z13⟩ := q13
  rw [z13]
  clear z13
  rw [xKb_congr (σ := σ) (xClr_I σ (by decide))]
  refine zw_istore_n dX3_fill_16 (by decide) rfl ?_
  refine zw_aload_n dX3_fill_17 rfl ?_
  refine zw_iload_n dX3_fill_18 rfl ?_
  refine zw_aload_n dX3_fill_19 rfl ?_
  refine zw_iload_n dX3_fill_20 rfl ?_
  refine zw_callV (y' := zmX3_slotOf) dX3_fill_21 zlX3_66 zmX3_slotOf_ok (xk_8 h) (by decide) rfl (c_X3_slotOf (σ := xClr σ) h ((xClr_hs σ (fun _ => 0)).sl (by omega)) _) rfl rfl (Nat.le_of_ble_eq_true rfl) ⟨Nat.le_of_ble_eq_true rfl, Nat.le_of_ble_eq_true rfl⟩ ⟨Nat.le_trans (Nat.le_of_ble_eq_true rfl : _ ≤ 0) (Nat.zero_le _), Nat.le_trans (Nat.le_of_ble_eq_true rfl : _ ≤ 0) (Nat.zero_le _)⟩ ?_
  intro v21 s21 q21
  obtain ⟨rfl, z21⟩ := q21
  rw [z21]
  clear z21
  rw [xClr_slot]
  refine zw_iconst (x := 0) dX3_fill_24 rfl ?_
  refine zw_iconst (x := 0) dX3_fill_25 rfl ?_
  refine zw_callV (y' := zmX3_newState) dX3_fill_26 zlX3_70 zmX3_newState_ok (xk_8 h) (by decide) rfl (c_X3_newState (σ := xClr σ) (f := 0) (n := 0) (p := 0) h (xClr_S σ) (by decide) (xHash_lt _) (by decide) _ _) rfl rfl (Nat.le_of_ble_eq_true rfl) ⟨Nat.le_of_ble_eq_true rfl, Nat.le_of_ble_eq_true rfl⟩ ⟨Nat.le_trans (Nat.le_of_ble_eq_true rfl : _ ≤ 0) (Nat.zero_le _), Nat.le_trans (Nat.le_of_ble_eq_true rfl : _ ≤ 0) (Nat.zero_le _)⟩ ?_
  intro v26 s26 q26
  obtain ⟨rfl, z26⟩ := q26
  rw [z26]
  clear z26
  show zAW _ _ _ _ _ _ (xBg σ (xKb σ V 0 0)) _ _ _
  refine zw_iconst (x := 0) dX3_fill_29 rfl ?_
  refine zw_istore_n dX3_fill_30 (by decide) rfl ?_
  refine zw_loc (lc' := [(0, .ref 8), (1, .ref 2), (2, .int (xKb σ V 0 0)), (3, .int (nI 0))]) (zsub_cons rfl (zsub_cons rfl (zsub_cons rfl (zsub_cons rfl zsub_nil)))) ?_
  exact lp_fill_states h (hpk.2.2) hpro 400 0 (xBg σ (xKb σ V 0 0)) pk 1 0 po 0 0 (Nat.zero_add _) hg (by omega) (Nat.le_of_eq (Nat.zero_add _)) (Nat.le_of_eq (Nat.zero_add _)) ⟨rfl, rfl⟩
set_option maxHeartbeats 4000000 in
set_option maxRecDepth 100000 in
theorem c_X4_forget {l : Launch} {σ : zS} (h : xSh σ) : zAM l zmX4_forget 0 0 0 0 [.ref 21] σ (fun v σ' => v = none ∧ σ' = zsF σ 4 11 21 (-1)) := by
  refine zAM.of (by decide +kernel) (Nat.le_of_ble_eq_true rfl) ?_
  refine zw_aload_n dX4_forget_0 rfl ?_
  refine zw_iconst (x := -1) dX4_forget_1 rfl ?_
  refine zw_putI dX4_forget_2 zfX4_37 rfl rfl ⟨rfl, rfl⟩ (xk_21 h) (by decide) ?_
  refine zw_vret dX4_forget_5 rfl ?_
  exact ⟨rfl, rfl⟩
