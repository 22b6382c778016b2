/-! the walk's turns -/
theorem tInv_nd {n : Nat} {E : Nat → List Nat} {w : Nat → Bool} {path wait : List Nat} {ord low nx : Nat → Nat} {bad : Nat → Bool} {en : Nat} (h : tInv n E w path wait ord low nx bad en) : (path.Nodup ∧ path.length ≤ n) ∧ (wait.Nodup ∧ wait.length ≤ n) ∧ (∀ x, x ∈ wait → x < n ∧ ord x ≠ 0 ∧ w x = true ∧ ord x ≤ en) ∧ (∀ x, x ∈ path → x ∈ wait) := by
  obtain ⟨a1, a2, a3, a4, a5, -⟩ := h
  have k : ∀ x, x ∈ wait → x < n ∧ ord x ≠ 0 ∧ w x = true ∧ ord x ≤ en := fun x hx => by
    have h1 : ord x ≠ 0 := by have := a1 x hx; omega
    obtain ⟨b1, b2, b3⟩ := a2 x h1
    exact ⟨b1, h1, b2, b3⟩
  have np : path.Nodup := a5.imp (fun q e => by rw [e] at q; omega)
  have nw : wait.Nodup := a3.imp (fun q e => by rw [e] at q; omega)
  exact ⟨⟨np, nd_len n path np (fun x hx => (k x (a4 x hx)).1)⟩, ⟨nw, nd_len n wait nw (fun x hx => (k x hx).1)⟩, k, a4⟩
def xWs (σ0 σ : zS) (n : Nat) (E : Nat → List Nat) (w : Nat → Bool) (M : Nat → Prop) (path : List Nat) (turn : Nat) : Prop :=
  xTf σ0 σ ∧ ∃ wait ord low nx bad en, xTs σ n w bad path wait ord low nx en ∧ tInv n E w path wait ord low nx bad en ∧ tEx n E ord nx path en turn ∧ ∀ x, M x → ord x ≠ 0
theorem tW_follow {σ0 σ : zS} {n en turn v t : Nat} {E : Nat → List Nat} {w bad : Nat → Bool} {M : Nat → Prop} {r wait : List Nat} {ord low nx : Nat → Nat} (hf : xTf σ0 σ) (hs : xTs σ n w bad (v :: r) wait ord low nx en) (hI : tInv n E w (v :: r) wait ord low nx bad en) (hX : tEx n E ord nx (v :: r) en turn) (hM : ∀ x, M x → ord x ≠ 0) (ht : (E v)[nx v]? = some t) (htn : t < n) :
    ∃ path', xWs σ0 (if w t = false then zsI σ 27 v (nI (nx v + 1)) else if ord t = 0 then xEnt (zsI σ 27 v (nI (nx v + 1))) t en (v :: r).length wait.length else if decide (t ∈ wait) = false then zsI σ 27 v (nI (nx v + 1)) else zsI (zsI σ 27 v (nI (nx v + 1))) 26 v (nI (min (low v) (ord t)))) n E w M path' (turn + 1) := by
  have s1 := xTs_nx (v := v) (x := nx v + 1) hs
  have f1 : xTf σ0 (zsI σ 27 v (nI (nx v + 1))) := hf.I (by decide) (by decide)
  have hd := tInv_nd hI
  have hv := hd.2.2.1 v (hd.2.2.2 v List.mem_cons_self)
  have hlt : nx v < (E v).length := (List.getElem?_eq_some_iff.mp ht).1
  have x1 := tEx_step hX hv.2.1 hlt
  by_cases c1 : w t = false
  · rw [if_pos c1]
    exact ⟨v :: r, f1, wait, ord, low, tU nx v (nx v + 1), bad, en, s1, tInv_follow hI ht low (Or.inl ⟨c1, rfl⟩), x1, hM⟩
  rw [if_neg c1]
  have c1' : w t = true := by
    cases e : w t with
    | true => rfl
    | false => exact absurd e c1
  by_cases c2 : ord t = 0
  · rw [if_pos c2]
    refine ⟨t :: v :: r, f1.Ent, t :: wait, tU ord t (en + 1), tU low t (en + 1), tU (tU nx v (nx v + 1)) t 0, bad, en + 1, xTs_enter s1, tInv_enter hI htn c1' c2 (tU nx v (nx v + 1)) (Or.inr ⟨v, r, rfl, ht, tU_s, fun x q _ => tU_n q⟩), tEx_enter0 x1 c2 htn (en + 1) (by omega), fun x hx => ?_⟩
    rw [tU_if]
    by_cases e : x = t
    · rw [if_pos e]; omega
    · rw [if_neg e]; exact hM x hx
  rw [if_neg c2]
  by_cases c3 : t ∈ wait
  · rw [if_neg (by rw [decide_eq_true c3]; decide)]
    exact ⟨v :: r, f1.I (by decide) (by decide), wait, ord, tU low v (min (low v) (ord t)), tU nx v (nx v + 1), bad, en, xTs_low s1, tInv_follow hI ht _ (Or.inr (Or.inr ⟨c1', c2, c3, rfl⟩)), x1, hM⟩
  · rw [if_pos (decide_eq_false c3)]
    exact ⟨v :: r, f1, wait, ord, low, tU nx v (nx v + 1), bad, en, s1, tInv_follow hI ht low (Or.inr (Or.inl ⟨c2, c3, rfl⟩)), x1, hM⟩
def lw1 (low : Nat → Nat) (v : Nat) : List Nat → Nat → Nat
  | [] => low
  | b :: _ => tU low b (min (low b) (low v))
theorem tW_close {n en v : Nat} {E : Nat → List Nat} {w bad : Nat → Bool} {r A B : List Nat} {ord low nx : Nat → Nat} {tk ev : Int32} {g tp : Bool} (hI : tInv n E w (v :: r) (A ++ v :: B) ord low nx bad en) (hnl : nx v = (E v).length) (hlo : low v = ord v) (hv1 : tk &&& ev = 0 → E v = []) (hv2 : E v = [] → tk = 0)
    (b1 : g = true ↔ ∃ x, (x ∈ A ∨ x = v) ∧ ∃ t, t ∈ E x ∧ w t = true ∧ decide (t ∈ A ++ v :: B) = false ∧ bad t = true) (b2 : tp = true → A = [] → lkI w (fun t => decide (t ∈ A ++ v :: B)) (E v) = true ∨ tk &&& ev = 0) (b3 : A = [] → lkI w (fun t => decide (t ∈ A ++ v :: B)) (E v) = false → tk = 0 → tp = true) :
    tInv n E w r B ord (lw1 low v r) nx (fun x => if x ∈ A ++ [v] then (tp || g) else bad x) en := by
  refine tInv_close hI hnl hlo (lw1 low v r) ?_ (tp || g) ?_ ?_ ?_ _ ?_ ?_
  · intro p hp
    cases r with
    | nil => exact absurd hp List.not_mem_nil
    | cons b r' =>
      show tU low b (min (low b) (low v)) p = low p
      by_cases e : p = b
      · rw [e, tU_s, hlo]
        have a5 := hI.2.2.2.2.1
        have a8 := hI.2.2.2.2.2.2.2.1
        have q1 := (List.pairwise_cons.mp a5).1 b List.mem_cons_self
        have q2 := (a8 b (List.mem_cons_of_mem _ List.mem_cons_self)).1
        exact Nat.min_eq_left (by omega)
      · exact tU_n e
  · intro h
    cases tp with
    | false =>
      obtain ⟨x, x1, t, t1, t2, t3, t4⟩ := b1.mp h
      exact Or.inl ⟨x, t, x1, t1, t2, of_decide_eq_false t3, t4⟩
    | true =>
      refine Or.inr (fun hA => ?_)
      rcases b2 rfl hA with q | q
      · obtain ⟨t, t1, t2, t3⟩ := (lkI_iff _).mp q
        have t3 : t ∈ A ++ v :: B := of_decide_eq_true t3
        rw [hA] at t3
        rcases List.mem_cons.mp t3 with e | e
        · exact Or.inl (e ▸ t1)
        · exfalso
          have a3 := hI.2.2.1
          have a9 := hI.2.2.2.2.2.2.2.2.1
          rw [hA] at a3 a9
          have q1 := (List.pairwise_cons.mp a3).1 t e
          obtain ⟨i, hi⟩ := List.getElem?_of_mem t1
          have hl := (List.getElem?_eq_some_iff.mp hi).1
          have q2 := (a9 v List.mem_cons_self i t (by rw [hnl]; exact hl) hi t2).2 (List.mem_cons_of_mem _ e) v ⟨List.mem_cons_self, Nat.le_refl _, fun _ _ z => z⟩
          omega
      · exact Or.inr (hv1 q)
  · intro x t x1 t1 t2 t3 t4
    rw [b1.mpr ⟨x, x1, t, t1, t2, decide_eq_false t3, t4⟩]
    cases tp <;> rfl
  · intro hA hE
    rw [b3 hA (by rw [hE]; rfl) (hv2 hE)]
    rfl
  · intro x hx
    refine if_pos ?_
    rcases hx with q | q
    · exact List.mem_append_left _ q
    · rw [q]; exact List.mem_append_right _ List.mem_cons_self
  · intro x hx
    refine if_neg (fun q => hx ?_)
    rcases List.mem_append.mp q with q | q
    · exact Or.inl q
    · exact Or.inr (List.mem_singleton.mp q)
set_option maxHeartbeats 4000000 in
set_option maxRecDepth 100000 in
theorem lp_walk_nil {l : Launch} {σ : zS} (h : xSh σ) {TT turn : Nat} {ev : Int32} {Q : Option Value → zS → Prop} (hpl : zF σ 4 8 21 = nI 0) (hQ : Q none σ) : zAW l zmX4_walkFrom { frames := 4, cells := 0, slots := 0, locals := 95 } 19 [(0, .ref 21), (2, .ref 8), (3, .int ev), (4, .int (nI TT)), (5, .int (nI turn))] [] σ 0 0 Q := by
  refine zw_iload dX4_walkFrom_19 rfl ?_
  refine zw_iload dX4_walkFrom_21 rfl ?_
  refine zw_icmpge (tgt := 140) dX4_walkFrom_23 (by decide) (fun c23 => ?_) (fun c23 => ?_)
  · refine zw_vret dX4_walkFrom_140 rfl ?_
    exact hQ
  · refine zw_aload_n dX4_walkFrom_26 rfl ?_
    refine zw_getI dX4_walkFrom_27 zfX4_64 rfl (xk_21 h) (by decide) ?_
    refine zw_ifle (tgt := 140) dX4_walkFrom_30 (by decide) (fun c30 => ?_) (fun c30 => ?_)
    · refine zw_vret dX4_walkFrom_140 rfl ?_
      exact hQ
    · exact absurd (show zF σ 4 8 21 ≤ 0 by rw [hpl]; decide) c30
set_option maxHeartbeats 4000000 in
set_option maxRecDepth 100000 in
theorem lp_leave {l : Launch} {σ0 σ : zS} (h : xSh σ) (hf : xTf σ0 σ) {n en v : Nat} {E : Nat → List Nat} {w bad : Nat → Bool} {r wait : List Nat} {ord low nx : Nat → Nat} (hs : xTs σ n w bad (v :: r) wait ord low nx en) (hI : tInv n E w (v :: r) wait ord low nx bad en) (hn : n ≤ 400) (he : en ≤ n) {turn TT : Nat} {ev : Int32} {Q : Option Value → zS → Prop} (K : ∀ σ1, xTf σ0 σ1 → xTs σ1 n w bad r wait ord (lw1 low v r) nx en → zAW l zmX4_walkFrom { frames := 4, cells := 0, slots := 0, locals := 95 } 109 [(0, .ref 21), (2, .ref 8), (3, .int ev), (4, .int (nI TT)), (5, .int (nI turn)), (6, .int (nI v))] [] σ1 0 0 Q) : zAW l zmX4_walkFrom { frames := 4, cells := 0, slots := 0, locals := 95 } 103 [(0, .ref 21), (2, .ref 8), (3, .int ev), (4, .int (nI TT)), (5, .int (nI turn)), (6, .int (nI v))] [] σ 0 0 Q := by
  have hd := tInv_nd hI
  have hv := hd.2.2.1 v (hd.2.2.2 v List.mem_cons_self)
  cases r with
  | nil =>
    refine zw_aload_n dX4_walkFrom_103 rfl ?_
    refine zw_iload dX4_walkFrom_104 rfl ?_
    refine zw_callV (y' := zmX4_leave) dX4_walkFrom_106 zlX4_97 zmX4_leave_ok (xk_21 h) (by decide) rfl (c_X4_leave_0 h hs.1.1) rfl rfl (Nat.le_of_ble_eq_true rfl) ⟨Nat.le_of_ble_eq_true rfl, Nat.le_of_ble_eq_true rfl⟩ ⟨Nat.le_of_ble_eq_true rfl, Nat.le_of_ble_eq_true rfl⟩ ?_
    intro v106 s106 q106
    obtain ⟨rfl, z106⟩ := q106
    rw [z106]
    clear z106
    exact K _ (hf.F (by decide)) (xTs_pop hs)
  | cons b r' =>
    have hb := hd.2.2.1 b (hd.2.2.2 b (List.mem_cons_of_mem _ List.mem_cons_self))
    have hq : r'.length < 399 := by
      have := hd.1.2
      rw [List.length_cons, List.length_cons] at this
      omega
    have q1 := (hI.2.2.2.2.2.2.2.1 v List.mem_cons_self).1
    have q2 := (hI.2.2.2.2.2.2.2.1 b (List.mem_cons_of_mem _ List.mem_cons_self)).1
    refine zw_aload_n dX4_walkFrom_103 rfl ?_
    refine zw_iload dX4_walkFrom_104 rfl ?_
    refine zw_callV (y' := zmX4_leave) dX4_walkFrom_106 zlX4_97 zmX4_leave_ok (xk_21 h) (by decide) rfl (c_X4_leave_1 h (q := r'.length) (b := b) (lb := low b) (ls := low v) (show zF σ 4 8 21 = nI (r'.length + 2) from hs.1.1) hq (by omega) (hs.2.2.2.2.1 r' b (List.suffix_cons _ _)) (by omega) (hs.2.2.2.1 b hb.1 hb.2.1).1 (hs.2.2.2.1 v hv.1 hv.2.1).1 (by omega) (by omega)) rfl rfl (Nat.le_of_ble_eq_true rfl) ⟨Nat.le_of_ble_eq_true rfl, Nat.le_of_ble_eq_true rfl⟩ ⟨Nat.le_of_ble_eq_true rfl, Nat.le_of_ble_eq_true rfl⟩ ?_
    intro v106 s106 q106
    obtain ⟨rfl, z106⟩ := q106
    rw [z106]
    clear z106
    exact K _ ((hf.F (by decide)).I (by decide) (by decide)) (xTs_low (xTs_pop hs))
set_option maxHeartbeats 4000000 in
set_option maxRecDepth 100000 in
theorem lp_walk {l : Launch} {σ0 : zS} (h0 : xSh σ0) {pk n : Nat} {fs : Nat → Nat} {E : Nat → List Nat} {w : Nat → Bool} {M : Nat → Prop} {ev : Int32} (hgr : xGr σ0 pk n (fs n) fs E) (hT : fs n < 2 ^ 20) (hv1 : ∀ s, s < n → zI σ0 13 s &&& ev = 0 → E s = []) (hv2 : ∀ s, s < n → E s = [] → zI σ0 13 s = 0) {TT : Nat} (hTT : TT = fs n + n) : ∀ (d turn : Nat) (path : List Nat) (σ : zS), turn + d = fs n + n → xWs σ0 σ n E w M path turn → zAW l zmX4_walkFrom { frames := 4, cells := 0, slots := 0, locals := 95 } 19 [(0, .ref 21), (2, .ref 8), (3, .int ev), (4, .int (nI TT)), (5, .int (nI turn))] [] σ 0 0 (fun r σ' => r = none ∧ xWs σ0 σ' n E w M [] 0) := by
  intro d
  induction d with
  | zero =>
    intro turn path σ htd ⟨hf, wait, ord, low, nx, bad, en, hs, hI, hX, hM⟩
    cases path with
    | nil => exact lp_walk_nil (hf.sh h0) hs.1.1 ⟨rfl, hf, wait, ord, low, nx, bad, en, hs, hI, tEx_turn0 hX, hM⟩
    | cons v r =>
      have := tEx_turn hX (by simp) hgr.2.2.2.2.2.1 (Nat.le_refl _)
      omega
  | succ d ih =>
    intro turn path σ htd ⟨hf, wait, ord, low, nx, bad, en, hs, hI, hX, hM⟩
    cases path with
    | nil => exact lp_walk_nil (hf.sh h0) hs.1.1 ⟨rfl, hf, wait, ord, low, nx, bad, en, hs, hI, tEx_turn0 hX, hM⟩
    | cons v r =>
      have h := hf.sh h0
      have hgs := hf.gr hgr
      obtain ⟨g1, g2, g3, g4, g5, g6, g7, g8⟩ := id hgs
      have htt := tEx_turn hX (by simp) g6 (Nat.le_refl _)
      have hen := tEx_en hX
      have hd := tInv_nd hI
      have hvw : v ∈ wait := hd.2.2.2 v List.mem_cons_self
      obtain ⟨hvn, hvo, hvt, hve⟩ := hd.2.2.1 v hvw
      have hpl : zF σ 4 8 21 = nI (r.length + 1) := hs.1.1
      have hrl : r.length + 1 ≤ n := hd.1.2
      have hsv : zI σ 28 r.length = nI v := hs.2.2.2.2.1 r v (List.suffix_refl _)
      have hnx := (hs.2.2.2.1 v hvn hvo).2
      have hnle := (hI.2.2.2.2.2.2.2.2.2.1 v hvw).1
      have hF1 := g5 v (by omega)
      have e6 := g6 v hvn
      have e7 := g7 (v + 1) hvn
      have hF2 : zI σ 14 (v + 1) = nI (fs v + (E v).length) := (g5 (v + 1) hvn).trans (congrArg nI e6)
      refine zw_iload dX4_walkFrom_19 rfl ?_
      refine zw_iload dX4_walkFrom_21 rfl ?_
      refine zw_icmpge (tgt := 140) dX4_walkFrom_23 (by decide) (fun c23 => ?_) (fun c23 => ?_)
      · exact absurd c23 (nI_ge (by omega) (by omega))
      · refine zw_aload_n dX4_walkFrom_26 rfl ?_
        refine zw_getI dX4_walkFrom_27 zfX4_64 rfl (xk_21 h) (by decide) ?_
        refine zw_ifle (tgt := 140) dX4_walkFrom_30 (by decide) (fun c30 => ?_) (fun c30 => ?_)
        · rw [hpl] at c30
          exact absurd c30 (nI_nle (by omega) (by omega))
        · refine zw_aload_n dX4_walkFrom_33 rfl ?_
          refine zw_getR dX4_walkFrom_34 zfX4_31 rfl (xk_21 h) (by decide) (xg_4_6 h) ?_
          refine zw_aload_n dX4_walkFrom_37 rfl ?_
          refine zw_getI dX4_walkFrom_38 zfX4_64 rfl (xk_21 h) (by decide) ?_
          refine zw_iconst (x := 1) dX4_walkFrom_41 rfl ?_
          refine zw_isub dX4_walkFrom_42 ?_
          rw [hpl, show nI (r.length + 1) - 1 = nI r.length from nI_pred _]
          refine zw_iaload dX4_walkFrom_43 (xk_28 h) (zin_of (xl_28 h) (vp_in_nI (by omega) (by omega))) ?_
          rw [nI_clamp (show r.length < 2 ^ 31 by omega), hsv]
          refine zw_istore dX4_walkFrom_44 (by decide) rfl ?_
          refine zw_aload_n dX4_walkFrom_46 rfl ?_
          refine zw_getR dX4_walkFrom_47 zfX4_28 rfl (xk_21 h) (by decide) (xg_4_5 h) ?_
          refine zw_iload dX4_walkFrom_50 rfl ?_
          refine zw_iaload dX4_walkFrom_52 (xk_27 h) (zin_of (xl_27 h) (vp_in_nI (by omega) (by omega))) ?_
          rw [nI_clamp (show v < 2 ^ 31 by omega), hnx]
          refine zw_aload_n dX4_walkFrom_53 rfl ?_
          refine zw_iload dX4_walkFrom_54 rfl ?_
          refine zw_callV (y' := zmX3_stepsOf) dX4_walkFrom_56 zlX4_83 zmX3_stepsOf_ok (xk_8 h) (by decide) rfl (c_X3_stepsOf h (show v < 400 by omega)) rfl rfl (Nat.le_of_ble_eq_true rfl) ⟨Nat.le_of_ble_eq_true rfl, Nat.le_of_ble_eq_true rfl⟩ ⟨Nat.le_of_ble_eq_true rfl, Nat.le_of_ble_eq_true rfl⟩ ?_
          intro v56 s56 q56
          obtain ⟨rfl, z56⟩ := q56
          rw [z56]
          clear z56
          rw [hF2, hF1, show nI (fs v + (E v).length) - nI (fs v) = nI (E v).length from by rw [Nat.add_comm, ← nI_add]; exact Int32.add_sub_cancel _ _]
          refine zw_icmpge (tgt := 103) dX4_walkFrom_59 (by decide) (fun c59 => ?_) (fun c59 => ?_)
          · have hnl : nx v = (E v).length := Nat.le_antisymm hnle (Nat.le_of_not_lt (fun q => nI_ge q (by omega) c59))
            refine zw_loc (lc' := [(0, .ref 21), (2, .ref 8), (3, .int ev), (4, .int (nI TT)), (5, .int (nI turn)), (6, .int (nI v))]) (zsub_cons rfl (zsub_cons rfl (zsub_cons rfl (zsub_cons rfl (zsub_cons rfl (zsub_cons rfl zsub_nil)))))) (lp_leave h hf hs hI g2 hen (fun σ1 f1 s1 => ?_))
            have h1 := f1.sh h0
            obtain ⟨⟨e1, e2, e3⟩, k1, k2, k3, k4, k5⟩ := id s1
            have hlv : lw1 low v r v = low v := by
              cases r with
              | nil => rfl
              | cons b r' => exact tU_n (fun e => (List.nodup_cons.mp hd.1.1).1 (by rw [e]; exact List.mem_cons_self))
            have hl1 : zI σ1 26 v = nI (low v) := (k3 v hvn hvo).1.trans (congrArg nI hlv)
            have ho1 := k2 v hvn
            have hvl := (hI.2.2.2.2.2.2.2.1 v List.mem_cons_self).1
            refine zw_aload_n dX4_walkFrom_109 rfl ?_
            refine zw_getR dX4_walkFrom_110 zfX4_25 rfl (xk_21 h1) (by decide) (xg_4_4 h1) ?_
            refine zw_iload dX4_walkFrom_113 rfl ?_
            refine zw_iaload dX4_walkFrom_115 (xk_26 h1) (zin_of (xl_26 h1) (vp_in_nI (by omega) (by omega))) ?_
            rw [nI_clamp (show v < 2 ^ 31 by omega), hl1]
            refine zw_aload_n dX4_walkFrom_116 rfl ?_
            refine zw_getR dX4_walkFrom_117 zfX4_21 rfl (xk_21 h1) (by decide) (xg_4_3 h1) ?_
            refine zw_iload dX4_walkFrom_120 rfl ?_
            refine zw_iaload dX4_walkFrom_122 (xk_25 h1) (zin_of (xl_25 h1) (vp_in_nI (by omega) (by omega))) ?_
            rw [nI_clamp (show v < 2 ^ 31 by omega), ho1]
            refine zw_icmpne (tgt := 134) dX4_walkFrom_123 (by decide) (fun c123 => ?_) (fun c123 => ?_)
            · refine zw_iinc dX4_walkFrom_134 rfl (by decide) rfl ?_
              refine zw_goto (tgt := 19) dX4_walkFrom_137 (by decide) ?_
              have hne : low v ≠ ord v := fun e => c123 (congrArg nI e)
              obtain ⟨b, r', hr, hI'⟩ := tInv_leave hI hnl hne
              subst hr
              refine zw_loc (lc' := [(0, .ref 21), (2, .ref 8), (3, .int ev), (4, .int (nI TT)), (5, .int (nI turn + 1))]) (zsub_cons rfl (zsub_cons rfl (zsub_cons rfl (zsub_cons rfl (zsub_cons rfl zsub_nil))))) ?_
              rw [nI_1]
              exact ih (turn + 1) (b :: r') _ (by omega) ⟨f1, wait, ord, lw1 low v (b :: r'), nx, bad, en, s1, hI', tEx_leave hX, hM⟩
            · have hlo : low v = ord v := (nI_eq (by omega) (by omega)).mp c123
              obtain ⟨A, B, rfl⟩ := List.append_of_mem hvw
              have ht13 : zI σ1 13 v = zI σ0 13 v := by rw [f1.2.2.2.2.2.2.2.1 13 (by decide)]
              have hvA : v ∉ A := fun q => (List.nodup_append.mp hd.2.1.1).2.2 v q v List.mem_cons_self rfl
              refine zw_aload_n dX4_walkFrom_126 rfl ?_
              refine zw_iload dX4_walkFrom_127 rfl ?_
              refine zw_aload_n dX4_walkFrom_129 rfl ?_
              refine zw_iload_n dX4_walkFrom_130 rfl ?_
              refine zw_callV (y' := zmX4_close) dX4_walkFrom_131 zlX4_100 zmX4_close_ok (xk_21 h1) (by decide) rfl (c_X4_close (σ := σ1) (A := A) (B := B) (w := w) (wa := fun t => decide (t ∈ A ++ v :: B)) (bad := bad) (ev := ev) h1 (f1.gr hgr) k1 k5 (fun x hx => (hd.2.2.1 x hx).1) hd.2.1.2 hvA e2) rfl rfl (Nat.le_of_ble_eq_true rfl) ⟨Nat.le_of_ble_eq_true rfl, Nat.le_of_ble_eq_true rfl⟩ ⟨Nat.le_of_ble_eq_true rfl, Nat.le_of_ble_eq_true rfl⟩ ?_
              intro v131 s131 q131
              obtain ⟨rfl, fq, gq, tp, yq, b1, b2, b3, z131⟩ := q131
              rw [z131]
              clear z131
              refine zw_iinc dX4_walkFrom_134 rfl (by decide) rfl ?_
              refine zw_goto (tgt := 19) dX4_walkFrom_137 (by decide) ?_
              refine zw_loc (lc' := [(0, .ref 21), (2, .ref 8), (3, .int ev), (4, .int (nI TT)), (5, .int (nI turn + 1))]) (zsub_cons rfl (zsub_cons rfl (zsub_cons rfl (zsub_cons rfl (zsub_cons rfl zsub_nil))))) ?_
              rw [nI_1]
              exact ih (turn + 1) r _ (by omega) ⟨((((f1.F (by decide)).F (by decide)).F (by decide)).Mrk _).F (by decide), B, ord, lw1 low v r, nx, _, en, xTs_close s1 hd.2.1.1, tW_close hI hnl hlo (hv1 v hvn) (hv2 v hvn) b1 (by rw [← ht13]; exact b2) (by rw [← ht13]; exact b3), tEx_leave hX, hM⟩
          · have hlt : nx v < (E v).length := Nat.lt_of_not_le (fun q => c59 (nI_le q (by omega)))
            obtain ⟨t, ht⟩ : ∃ t, (E v)[nx v]? = some t := ⟨_, List.getElem?_eq_getElem hlt⟩
            obtain ⟨htn, hpt⟩ := g8 v hvn (nx v) t ht
            have hnx2 := xTs_nx (v := v) (x := nx v + 1) hs
            have hto : ord t < 2 ^ 31 := by
              by_cases q : ord t = 0
              · omega
              · have := (hI.2.1 t q).2.2
                omega
            have hvl := (hI.2.2.2.2.2.2.2.1 v List.mem_cons_self).1
            have hpw : w t = true → ord t = 0 → (v :: r).length < 400 ∧ wait.length < 400 := by
              intro q1 q2
              have hnt : t ∉ wait := fun q => (hd.2.2.1 t q).2.1 q2
              have n1 := nd_len n (t :: wait) (List.nodup_cons.mpr ⟨hnt, hd.2.1.1⟩) (fun x hx => (List.mem_cons.mp hx).elim (fun e => e ▸ htn) (fun e => (hd.2.2.1 x e).1))
              have n2 := nd_len n (t :: v :: r) (List.nodup_cons.mpr ⟨fun q => hnt (hd.2.2.2 t q), hd.1.1⟩) (fun x hx => (List.mem_cons.mp hx).elim (fun e => e ▸ htn) (fun e => (hd.2.2.1 x (hd.2.2.2 x e)).1))
              rw [List.length_cons] at n1 n2
              omega
            refine zw_aload_n dX4_walkFrom_62 rfl ?_
            refine zw_iload dX4_walkFrom_63 rfl ?_
            refine zw_aload_n dX4_walkFrom_65 rfl ?_
            refine zw_getR dX4_walkFrom_66 zfX4_28 rfl (xk_21 h) (by decide) (xg_4_5 h) ?_
            refine zw_iload dX4_walkFrom_69 rfl ?_
            refine zw_iaload dX4_walkFrom_71 (xk_27 h) (zin_of (xl_27 h) (vp_in_nI (by omega) (by omega))) ?_
            rw [nI_clamp (show v < 2 ^ 31 by omega), hnx]
            refine zw_callV (y' := zmX3_packedStep) dX4_walkFrom_72 zlX4_86 zmX3_packedStep_ok (xk_8 h) (by decide) rfl (c_X3_packedStep h g1 (show v < 400 by omega) hF1 (show fs v + nx v < zL σ pk by omega) g4) rfl rfl (Nat.le_of_ble_eq_true rfl) ⟨Nat.le_of_ble_eq_true rfl, Nat.le_of_ble_eq_true rfl⟩ ⟨Nat.le_of_ble_eq_true rfl, Nat.le_of_ble_eq_true rfl⟩ ?_
            intro v72 s72 q72
            obtain ⟨rfl, z72⟩ := q72
            rw [z72]
            clear z72
            refine zw_istore dX4_walkFrom_75 (by decide) rfl ?_
            refine zw_aload_n dX4_walkFrom_77 rfl ?_
            refine zw_getR dX4_walkFrom_78 zfX4_28 rfl (xk_21 h) (by decide) (xg_4_5 h) ?_
            refine zw_iload dX4_walkFrom_81 rfl ?_
            refine zw_dup2 dX4_walkFrom_83 rfl rfl ?_
            refine zw_iaload dX4_walkFrom_84 (xk_27 h) (zin_of (xl_27 h) (vp_in_nI (by omega) (by omega))) ?_
            rw [nI_clamp (show v < 2 ^ 31 by omega), hnx]
            refine zw_iconst (x := 1) dX4_walkFrom_85 rfl ?_
            refine zw_iadd dX4_walkFrom_86 ?_
            refine zw_iastore dX4_walkFrom_87 (xk_27 h) (by decide) (zin_of (xl_27 h) (vp_in_nI (by omega) (by omega))) ?_
            rw [nI_clamp (show v < 2 ^ 31 by omega), nI_1]
            refine zw_aload_n dX4_walkFrom_88 rfl ?_
            refine zw_iload dX4_walkFrom_89 rfl ?_
            refine zw_iload dX4_walkFrom_91 rfl ?_
            refine zw_iconst (x := 0) dX4_walkFrom_93 rfl ?_
            refine zw_callS (y' := zmX3_partOf) dX4_walkFrom_94 zlX4_90 zmX3_partOf_ok (c_X3_partOf _ _) rfl rfl (Nat.le_of_ble_eq_true rfl) ⟨Nat.le_of_ble_eq_true rfl, Nat.le_of_ble_eq_true rfl⟩ ⟨Nat.le_of_ble_eq_true rfl, Nat.le_of_ble_eq_true rfl⟩ ?_
            intro v94 s94 q94
            obtain ⟨rfl, z94⟩ := q94
            rw [z94]
            clear z94
            rw [hpt]
            refine zw_callV (y' := zmX4_follow) dX4_walkFrom_97 zlX4_93 zmX4_follow_ok (xk_21 h) (by decide) rfl (c_X4_follow (σ := zsI σ 27 v (nI (nx v + 1))) (en := en) (pl := (v :: r).length) (wl := wait.length) (wt := w t) (wa := decide (t ∈ wait)) (ot := ord t) (lv := low v) h hnx2.1.2.2 hnx2.1.1 hnx2.1.2.1 (show v < 400 by omega) (show t < 400 by omega) (hnx2.2.1 t htn).1 (hnx2.2.1 t htn).2.1 (hnx2.2.2.1 t htn) (hnx2.2.2.2.1 v hvn hvo).1 hto (by omega) hpw) rfl rfl (Nat.le_of_ble_eq_true rfl) ⟨Nat.le_of_ble_eq_true rfl, Nat.le_of_ble_eq_true rfl⟩ ⟨Nat.le_of_ble_eq_true rfl, Nat.le_of_ble_eq_true rfl⟩ ?_
            intro v97 s97 q97
            obtain ⟨rfl, z97⟩ := q97
            rw [z97]
            clear z97
            refine zw_goto (tgt := 134) dX4_walkFrom_100 (by decide) ?_
            refine zw_iinc dX4_walkFrom_134 rfl (by decide) rfl ?_
            refine zw_goto (tgt := 19) dX4_walkFrom_137 (by decide) ?_
            obtain ⟨path', hW⟩ := tW_follow hf hs hI hX hM ht htn
            refine zw_loc (lc' := [(0, .ref 21), (2, .ref 8), (3, .int ev), (4, .int (nI TT)), (5, .int (nI turn + 1))]) (zsub_cons rfl (zsub_cons rfl (zsub_cons rfl (zsub_cons rfl (zsub_cons rfl zsub_nil))))) ?_
            rw [nI_1]
            exact ih (turn + 1) path' _ (by omega) hW
set_option maxHeartbeats 4000000 in
set_option maxRecDepth 100000 in
theorem c_X4_walkFrom {l : Launch} {σ0 σ : zS} (h0 : xSh σ0) {pk n : Nat} {fs : Nat → Nat} {E : Nat → List Nat} {w : Nat → Bool} {M : Nat → Prop} {ev : Int32} (hgr : xGr σ0 pk n (fs n) fs E) (hT : fs n < 2 ^ 20) (hv1 : ∀ s, s < n → zI σ0 13 s &&& ev = 0 → E s = []) (hv2 : ∀ s, s < n → E s = [] → zI σ0 13 s = 0) (hf : xTf σ0 σ) {bad : Nat → Bool} {ord low nx : Nat → Nat} {en : Nat} (hs : xTs σ n w bad [] [] ord low nx en) (hI : tInv n E w [] [] ord low nx bad en) (hX : tEx n E ord nx [] en 0) (hM : ∀ x, M x → ord x ≠ 0) {s : Nat} (hsn : s < n) (hws : w s = true) (hos : ord s = 0) (hTf : zF σ0 3 9 8 = nI (fs n)) (hSf : zF σ0 3 8 8 = nI n) : zAM l zmX4_walkFrom 4 95 0 0 [.ref 21, .int (nI s), .ref 8, .int ev] σ (fun r σ' => r = none ∧ xWs σ0 σ' n E w (fun x => M x ∨ x = s) [] 0) := by
  refine zAM.of (by decide +kernel) (Nat.le_of_ble_eq_true rfl) ?_
  have h := hf.sh h0
  have g2 := hgr.2.1
  have f1 : xTf σ0 (xEnt σ s en 0 0) := hf.Ent
  have eT : zF (xEnt σ s en 0 0) 3 9 8 = nI (fs n) := (f1.2.2.2.2.2.2.1 3 9 8 (by decide)).trans hTf
  have eS : zF (xEnt σ s en 0 0) 3 8 8 = nI n := (f1.2.2.2.2.2.2.1 3 8 8 (by decide)).trans hSf
  have h1 := f1.sh h0
  refine zw_aload_n dX4_walkFrom_0 rfl ?_
  refine zw_iload_n dX4_walkFrom_1 rfl ?_
  refine zw_callV (y' := zmX4_enter) dX4_walkFrom_2 zlX4_76 zmX4_enter_ok (xk_21 h) (by decide) rfl (c_X4_enter (pl := 0) (wl := 0) h hs.1.2.2 hs.1.1 hs.1.2.1 (show (0:Nat) < 400 by decide) (show (0:Nat) < 400 by decide) (show s < 400 by omega)) rfl rfl (Nat.le_of_ble_eq_true rfl) ⟨Nat.le_of_ble_eq_true rfl, Nat.le_of_ble_eq_true rfl⟩ ⟨Nat.le_of_ble_eq_true rfl, Nat.le_of_ble_eq_true rfl⟩ ?_
  intro v2 s2 q2
  obtain ⟨rfl, z2⟩ := q2
  rw [z2]
  clear z2
  refine zw_aload_n dX4_walkFrom_5 rfl ?_
  refine zw_getI dX4_walkFrom_6 zfX4_80 rfl (xk_8 h1) (by decide) ?_
  refine zw_aload_n dX4_walkFrom_9 rfl ?_
  refine zw_getI dX4_walkFrom_10 zfX4_45 rfl (xk_8 h1) (by decide) ?_
  rw [eT, eS]
  refine zw_iadd dX4_walkFrom_13 ?_
  rw [nI_add]
  refine zw_istore dX4_walkFrom_14 (by decide) rfl ?_
  refine zw_iconst (x := 0) dX4_walkFrom_16 rfl ?_
  refine zw_istore dX4_walkFrom_17 (by decide) rfl ?_
  refine zw_loc (lc' := [(0, .ref 21), (2, .ref 8), (3, .int ev), (4, .int (nI (fs n + n))), (5, .int (nI 0))]) (zsub_cons rfl (zsub_cons rfl (zsub_cons rfl (zsub_cons rfl (zsub_cons rfl zsub_nil))))) (lp_walk h0 hgr hT hv1 hv2 (TT := fs n + n) rfl (fs n + n) 0 [s] _ (Nat.zero_add _) ⟨f1, [s], tU ord s (en + 1), tU low s (en + 1), tU nx s 0, bad, en + 1, xTs_enter hs, tInv_enter hI hsn hws hos nx (Or.inl ⟨rfl, fun _ h => (List.not_mem_nil h).elim⟩), tEx_enter0 hX hos hsn (en + 1) (by omega), fun x hx => ?_⟩)
  rw [tU_if]
  by_cases e : x = s
  · rw [if_pos e]; omega
  · rw [if_neg e]; exact hM x (hx.resolve_right e)
