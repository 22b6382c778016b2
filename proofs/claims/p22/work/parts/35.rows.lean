/-! what only comes new; rows that stay -/
def zX (σ σ' : zS) : Prop := zn σ ≤ zn σ' ∧ ∀ a, a < zn σ → zK σ' a = zK σ a ∧ zL σ' a = zL σ a ∧ zI σ' a = zI σ a ∧ zR σ' a = zR σ a ∧ ∀ c k, zF σ' c k a = zF σ c k a ∧ zG σ' c k a = zG σ c k a
theorem zX.rf (σ : zS) : zX σ σ := ⟨Nat.le_refl _, fun _ _ => ⟨rfl, rfl, rfl, rfl, fun _ _ => ⟨rfl, rfl⟩⟩⟩
theorem zX.tr {σ σ1 σ2 : zS} (h : zX σ σ1) (h2 : zX σ1 σ2) : zX σ σ2 := by
  refine ⟨Nat.le_trans h.1 h2.1, fun a ha => ?_⟩
  obtain ⟨b1, b2, b3, b4, b5⟩ := h.2 a ha
  obtain ⟨c1, c2, c3, c4, c5⟩ := h2.2 a (Nat.lt_of_lt_of_le ha h.1)
  exact ⟨c1.trans b1, c2.trans b2, c3.trans b3, c4.trans b4, fun c k => ⟨(c5 c k).1.trans (b5 c k).1, (c5 c k).2.trans (b5 c k).2⟩⟩
theorem zX.A1 {σ0 σ : zS} (h : zX σ0 σ) (t N : Nat) : zX σ0 (znA1 σ t N) := by
  refine h.tr ⟨Nat.le_succ _, fun a ha => ?_⟩
  have hne : a ≠ zn σ := Nat.ne_of_lt ha
  refine ⟨by rw [zK_znA1, if_neg hne], by rw [zL_znA1, if_neg hne], funext fun j => by rw [zI_znA1, if_neg hne], funext fun j => by rw [zR_znA1, if_neg hne], fun _ _ => ⟨rfl, rfl⟩⟩
theorem zX.A2 {σ0 σ : zS} (h : zX σ0 σ) (t N : Nat) (f : Nat → Int32) : zX σ0 (znA2 σ t N f) := by
  refine h.tr ⟨Nat.le_succ _, fun a ha => ?_⟩
  have hne : a ≠ zn σ := Nat.ne_of_lt ha
  refine ⟨by rw [zK_znA2, if_neg hne], by rw [zL_znA2, if_neg hne], funext fun j => by rw [zI_znA2, if_neg hne], rfl, fun _ _ => ⟨rfl, rfl⟩⟩
theorem zX.I {σ0 σ : zS} (h : zX σ0 σ) {a i : Nat} {x : Int32} (ha : zn σ0 ≤ a) : zX σ0 (zsI σ a i x) := by
  refine ⟨h.1, fun b hb => ?_⟩
  obtain ⟨c1, c2, c3, c4, c5⟩ := h.2 b hb
  refine ⟨c1, c2, funext fun j => ?_, c4, c5⟩
  rw [zI_zsI, if_neg (fun q => by have := q.1; omega), c3]
theorem zX.R {σ0 σ : zS} (h : zX σ0 σ) {a i : Nat} {x : Option Nat} (ha : zn σ0 ≤ a) : zX σ0 (zsR σ a i x) := by
  refine ⟨h.1, fun b hb => ?_⟩
  obtain ⟨c1, c2, c3, c4, c5⟩ := h.2 b hb
  refine ⟨c1, c2, c3, funext fun j => ?_, c5⟩
  rw [zR_zsR, if_neg (fun q => by have := q.1; omega), c4]
/-- a row of ints -/
def iI (σ : zS) (a : Nat) (xs : List Int32) : Prop := zK σ a = 100 ∧ 0 < a ∧ a < zn σ ∧ zL σ a = xs.length ∧ ∀ (i : Nat) (x : Int32), xs[i]? = some x → zI σ a i = x
theorem iI.x {σ σ' : zS} {a : Nat} {xs : List Int32} (h : iI σ a xs) (hx : zX σ σ') : iI σ' a xs := by
  obtain ⟨h1, h2, h3, h4, h5⟩ := h
  obtain ⟨b1, b2, b3, b4, b5⟩ := hx.2 a h3
  exact ⟨b1.trans h1, h2, Nat.lt_of_lt_of_le h3 hx.1, b2.trans h4, fun i x q => by rw [b3]; exact h5 i x q⟩
/-- a row of rows -/
def iR {β : Type} (σ : zS) (t a : Nat) (P : Nat → β → Prop) (l : List β) : Prop := zK σ a = 100 + t ∧ 0 < a ∧ a < zn σ ∧ zL σ a = l.length ∧ ∀ (i : Nat) (x : β), l[i]? = some x → ∃ b, zR σ a i = some b ∧ P b x
theorem iR.x {β : Type} {σ σ' : zS} {t a : Nat} {P P' : Nat → β → Prop} {l : List β} (h : iR σ t a P l) (hx : zX σ σ') (hP : ∀ b x, P b x → P' b x) : iR σ' t a P' l := by
  obtain ⟨h1, h2, h3, h4, h5⟩ := h
  obtain ⟨b1, b2, b3, b4, b5⟩ := hx.2 a h3
  refine ⟨b1.trans h1, h2, Nat.lt_of_lt_of_le h3 hx.1, b2.trans h4, fun i x q => ?_⟩
  obtain ⟨b, c1, c2⟩ := h5 i x q
  exact ⟨b, by rw [b4]; exact c1, hP b x c2⟩
def iII (σ : zS) (a : Nat) (l : List (List Int32)) : Prop := iR σ 4 a (fun b xs => iI σ b xs) l
theorem iII.x {σ σ' : zS} {a : Nat} {l : List (List Int32)} (h : iII σ a l) (hx : zX σ σ') : iII σ' a l := iR.x h hx (fun _ _ q => q.x hx)
def iIII (σ : zS) (a : Nat) (l : List (List (List Int32))) : Prop := iR σ 5 a (fun b xs => iII σ b xs) l
theorem iIII.x {σ σ' : zS} {a : Nat} {l : List (List (List Int32))} (h : iIII σ a l) (hx : zX σ σ') : iIII σ' a l := iR.x h hx (fun _ _ q => iII.x q hx)
def xMo (σ σ1 : zS) (N : Nat) (xs : List Int32) (k : Nat) : Prop := zX σ σ1 ∧ zn σ1 = zn σ + 1 ∧ zK σ1 (zn σ) = 100 ∧ zL σ1 (zn σ) = N ∧ ∀ j x, j < k → xs[j]? = some x → zI σ1 (zn σ) j = x
theorem xMo_step {σ σ1 : zS} {N k : Nat} {xs : List Int32} {x : Int32} (h : xMo σ σ1 N xs k) (hx : xs[k]? = some x) : xMo σ (zsI σ1 (zn σ) k x) N xs (k + 1) := by
  refine ⟨h.1.I (Nat.le_refl _), h.2.1, h.2.2.1, h.2.2.2.1, fun j y hj hy => ?_⟩
  rw [zI_zsI]
  by_cases e : j = k
  · rw [if_pos ⟨rfl, e⟩]
    rw [e, hx] at hy
    exact Option.some.inj hy
  · rw [if_neg (fun q => e q.2)]
    exact h.2.2.2.2 j y (by omega) hy
theorem xMo_end {σ σ1 : zS} {xs : List Int32} {x : Int32} (h : xMo σ σ1 (xs.length + 1) xs xs.length) (hp : 0 < zn σ) : zX σ (zsI σ1 (zn σ) xs.length x) ∧ zn (zsI σ1 (zn σ) xs.length x) = zn σ + 1 ∧ iI (zsI σ1 (zn σ) xs.length x) (zn σ) (xs ++ [x]) := by
  refine ⟨h.1.I (Nat.le_refl _), h.2.1, h.2.2.1, hp, by rw [show zn (zsI σ1 (zn σ) xs.length x) = zn σ1 from rfl, h.2.1]; exact Nat.lt_succ_self _, by rw [List.length_append]; exact h.2.2.2.1, fun i y hy => ?_⟩
  rw [zI_zsI]
  by_cases e : i = xs.length
  · rw [if_pos ⟨rfl, e⟩]
    rw [e, List.getElem?_append_right (Nat.le_refl _), Nat.sub_self] at hy
    exact Option.some.inj hy
  · rw [if_neg (fun q => e q.2)]
    have hi : i < xs.length := by
      have := (List.getElem?_eq_some_iff.mp hy).1
      rw [List.length_append, List.length_singleton] at this
      omega
    rw [List.getElem?_append_left hi] at hy
    exact h.2.2.2.2 i y hi hy
set_option maxHeartbeats 4000000 in
set_option maxRecDepth 100000 in
theorem lp_more {l : Launch} {σ : zS} {a : Nat} {xs : List Int32} {x : Int32} (ha : iI σ a xs) (hl : xs.length < 1000000) {uc us : Nat} : ∀ (d k : Nat) (σ1 : zS), k + d = xs.length → xMo σ σ1 (xs.length + 1) xs k → zAW l zmX6_more { frames := 0, cells := 1, slots := xs.length + 1, locals := 0 } 9 [(0, .ref a), (1, .int x), (2, .ref (zn σ)), (3, .int (nI k))] [] σ1 uc us (fun v σ' => v = some (.ref (zn σ)) ∧ zX σ σ' ∧ zn σ' = zn σ + 1 ∧ iI σ' (zn σ) (xs ++ [x])) := by
  have hzp : 0 < zn σ := Nat.lt_of_le_of_lt (Nat.zero_le a) ha.2.2.1
  intro d
  induction d with
  | zero =>
    intro k σ1 hkd hm
    have haX := ha.x hm.1
    refine zw_iload_n dX6_more_9 rfl ?_
    refine zw_aload_n dX6_more_10 rfl ?_
    refine zw_alen (t := 0) dX6_more_11 haX.1 (by decide) ?_
    rw [haX.2.2.2.1]
    refine zw_icmpge (tgt := 27) dX6_more_12 (by decide) (fun c12 => ?_) (fun c12 => ?_)
    · refine zw_aload_n dX6_more_27 rfl ?_
      refine zw_aload_n dX6_more_28 rfl ?_
      refine zw_alen (t := 0) dX6_more_29 haX.1 (by decide) ?_
      rw [haX.2.2.2.1]
      refine zw_iload_n dX6_more_30 rfl ?_
      refine zw_iastore dX6_more_31 hm.2.2.1 hzp (zin_of hm.2.2.2.1 (vp_in_nI (by omega) (by omega))) ?_
      rw [nI_clamp (show xs.length < 2 ^ 31 by omega)]
      refine zw_aload_n dX6_more_32 rfl ?_
      refine zw_aret dX6_more_33 rfl (Or.inr ⟨_, rfl⟩) ?_
      obtain rfl : k = xs.length := by omega
      exact ⟨rfl, xMo_end hm hzp⟩
    · exact absurd (nI_le (show xs.length ≤ k by omega) (by omega)) c12
  | succ d ih =>
    intro k σ1 hkd hm
    have haX := ha.x hm.1
    have hk : k < xs.length := by omega
    have hx : xs[k]? = some xs[k] := List.getElem?_eq_getElem hk
    have hv := haX.2.2.2.2 k _ hx
    refine zw_iload_n dX6_more_9 rfl ?_
    refine zw_aload_n dX6_more_10 rfl ?_
    refine zw_alen (t := 0) dX6_more_11 haX.1 (by decide) ?_
    rw [haX.2.2.2.1]
    refine zw_icmpge (tgt := 27) dX6_more_12 (by decide) (fun c12 => ?_) (fun c12 => ?_)
    · exact absurd c12 (nI_ge hk (by omega))
    · refine zw_aload_n dX6_more_15 rfl ?_
      refine zw_iload_n dX6_more_16 rfl ?_
      refine zw_aload_n dX6_more_17 rfl ?_
      refine zw_iload_n dX6_more_18 rfl ?_
      refine zw_iaload dX6_more_19 haX.1 (zin_of haX.2.2.2.1 (vp_in_nI (by omega) (by omega))) ?_
      rw [nI_clamp (show k < 2 ^ 31 by omega), hv]
      refine zw_iastore dX6_more_20 hm.2.2.1 hzp (zin_of hm.2.2.2.1 (vp_in_nI (by omega) (by omega))) ?_
      rw [nI_clamp (show k < 2 ^ 31 by omega)]
      refine zw_iinc dX6_more_21 rfl (by decide) rfl ?_
      refine zw_goto (tgt := 9) dX6_more_24 (by decide) ?_
      refine zw_loc (lc' := [(0, .ref a), (1, .int x), (2, .ref (zn σ)), (3, .int (nI k + 1))]) (zsub_cons rfl (zsub_cons rfl (zsub_cons rfl (zsub_cons rfl zsub_nil)))) ?_
      rw [nI_1]
      exact ih (k + 1) _ (by omega) (xMo_step hm hx)
set_option maxHeartbeats 4000000 in
set_option maxRecDepth 100000 in
theorem c_X6_more {l : Launch} {σ : zS} {a : Nat} {xs : List Int32} {x : Int32} (ha : iI σ a xs) (hl : xs.length < 1000000) : zAM l zmX6_more 0 0 1 (xs.length + 1) [.ref a, .int x] σ (fun v σ' => v = some (.ref (zn σ)) ∧ zX σ σ' ∧ zn σ' = zn σ + 1 ∧ iI σ' (zn σ) (xs ++ [x])) := by
  refine zAM.of (by decide +kernel) (Nat.le_of_ble_eq_true rfl) ?_
  refine zw_aload_n dX6_more_0 rfl ?_
  refine zw_alen (t := 0) dX6_more_1 ha.1 (by decide) ?_
  rw [ha.2.2.2.1]
  refine zw_iconst (x := 1) dX6_more_2 rfl ?_
  refine zw_iadd dX6_more_3 ?_
  rw [nI_1]
  refine zw_newI (N := xs.length + 1) dX6_more_4 rfl (by omega) ⟨Nat.le_of_ble_eq_true rfl, Nat.le_of_eq (Nat.zero_add _)⟩ ?_
  refine zw_astore_n dX6_more_6 (by decide) rfl ?_
  refine zw_iconst (x := 0) dX6_more_7 rfl ?_
  refine zw_istore_n dX6_more_8 (by decide) rfl ?_
  refine zw_loc (lc' := [(0, .ref a), (1, .int x), (2, .ref (zn σ)), (3, .int (nI 0))]) (zsub_cons rfl (zsub_cons rfl (zsub_cons rfl (zsub_cons rfl zsub_nil)))) (lp_more ha hl xs.length 0 _ (Nat.zero_add _) ⟨(zX.rf σ).A1 0 _, rfl, by rw [zK_znA1, if_pos rfl], by rw [zL_znA1, if_pos rfl], fun j x q => absurd q (Nat.not_lt_zero _)⟩)
