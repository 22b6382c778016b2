/-! more, for rows of rows; find -/
theorem zno_0 : ∀ C, zAT 0 ≠ .object C := fun C q => by rw [show zAT 0 = .int from rfl] at q; cases q
theorem zno_4 : ∀ C, zAT 4 ≠ .object C := fun C q => by rw [show zAT 4 = .array .int from rfl] at q; cases q
def xMoR {β : Type} (σ σ1 : zS) (t N : Nat) (P : Nat → β → Prop) (l : List β) (k : Nat) : Prop := zX σ σ1 ∧ zn σ1 = zn σ + 1 ∧ zK σ1 (zn σ) = 100 + t ∧ zL σ1 (zn σ) = N ∧ ∀ (j : Nat) (x : β), j < k → l[j]? = some x → ∃ b, zR σ1 (zn σ) j = some b ∧ P b x
theorem xMoR_step {β : Type} {σ σ1 : zS} {t N k b : Nat} {P : Nat → β → Prop} {l : List β} {x : β} (h : xMoR σ σ1 t N P l k) (hx : l[k]? = some x) (hb : P b x) : xMoR σ (zsR σ1 (zn σ) k (some b)) t N P l (k + 1) := by
  refine ⟨h.1.R (Nat.le_refl _), h.2.1, h.2.2.1, h.2.2.2.1, fun j y hj hy => ?_⟩
  rw [zR_zsR]
  by_cases e : j = k
  · rw [if_pos ⟨rfl, e⟩]
    rw [e, hx] at hy
    exact ⟨b, rfl, Option.some.inj hy ▸ hb⟩
  · rw [if_neg (fun q => e q.2)]
    exact h.2.2.2.2 j y (by omega) hy
theorem xMoR_end {β : Type} {σ σ1 : zS} {t b : Nat} {P : Nat → β → Prop} {l : List β} {x : β} (h : xMoR σ σ1 t (l.length + 1) P l l.length) (hp : 0 < zn σ) (hb : P b x) : zX σ (zsR σ1 (zn σ) l.length (some b)) ∧ zn (zsR σ1 (zn σ) l.length (some b)) = zn σ + 1 ∧ iR (zsR σ1 (zn σ) l.length (some b)) t (zn σ) P (l ++ [x]) := by
  refine ⟨h.1.R (Nat.le_refl _), h.2.1, h.2.2.1, hp, by rw [show zn (zsR σ1 (zn σ) l.length (some b)) = zn σ1 from rfl, h.2.1]; exact Nat.lt_succ_self _, by rw [List.length_append]; exact h.2.2.2.1, fun i y hy => ?_⟩
  rw [zR_zsR]
  by_cases e : i = l.length
  · rw [if_pos ⟨rfl, e⟩]
    rw [e, List.getElem?_append_right (Nat.le_refl _), Nat.sub_self] at hy
    exact ⟨b, rfl, Option.some.inj hy ▸ hb⟩
  · rw [if_neg (fun q => e q.2)]
    have hi : i < l.length := by
      have := (List.getElem?_eq_some_iff.mp hy).1
      rw [List.length_append, List.length_singleton] at this
      omega
    rw [List.getElem?_append_left hi] at hy
    exact h.2.2.2.2 i y hi hy
set_option maxHeartbeats 4000000 in
set_option maxRecDepth 100000 in
theorem lp_moreR {l : Launch} {σ : zS} {a r : Nat} {rows : List (List Int32)} {xs : List Int32} (ha : iII σ a rows) (hr : iI σ r xs) (hl : rows.length < 1000000) {uc us : Nat} : ∀ (d k : Nat) (σ1 : zS), k + d = rows.length → xMoR σ σ1 4 (rows.length + 1) (fun b ys => iI σ b ys) rows k → zAW l zmX6_more_ { frames := 0, cells := 1, slots := rows.length + 1, locals := 0 } 10 [(0, .ref a), (1, .ref r), (2, .ref (zn σ)), (3, .int (nI k))] [] σ1 uc us (fun v σ' => v = some (.ref (zn σ)) ∧ zX σ σ' ∧ zn σ' = zn σ + 1 ∧ iII σ' (zn σ) (rows ++ [xs])) := by
  have hzp : 0 < zn σ := Nat.lt_of_le_of_lt (Nat.zero_le a) ha.2.2.1
  intro d
  induction d with
  | zero =>
    intro k σ1 hkd hm
    have haX := iII.x ha hm.1
    have hrX := hr.x hm.1
    refine zw_iload_n dX6_more__10 rfl ?_
    refine zw_aload_n dX6_more__11 rfl ?_
    refine zw_alen (t := 4) dX6_more__12 haX.1 (by decide) ?_
    rw [haX.2.2.2.1]
    refine zw_icmpge (tgt := 28) dX6_more__13 (by decide) (fun c13 => ?_) (fun c13 => ?_)
    · refine zw_aload_n dX6_more__28 rfl ?_
      refine zw_aload_n dX6_more__29 rfl ?_
      refine zw_alen (t := 4) dX6_more__30 haX.1 (by decide) ?_
      rw [haX.2.2.2.1]
      refine zw_aload_n dX6_more__31 rfl ?_
      refine zw_aastoreA (t := 4) (tv := 0) (v := r) dX6_more__32 hm.2.2.1 (by decide) rfl zno_0 hrX.1 hrX.2.1 (by decide) (zin_of hm.2.2.2.1 (vp_in_nI (by omega) (by omega))) ?_
      rw [nI_clamp (show rows.length < 2 ^ 31 by omega)]
      refine zw_aload_n dX6_more__33 rfl ?_
      refine zw_aret dX6_more__34 rfl (Or.inr ⟨_, rfl⟩) ?_
      obtain rfl : k = rows.length := by omega
      obtain ⟨e1, e2, e3⟩ := xMoR_end hm hzp hr
      exact ⟨rfl, e1, e2, ⟨e3.1, e3.2.1, e3.2.2.1, e3.2.2.2.1, fun i x q => (e3.2.2.2.2 i x q).imp (fun b z => ⟨z.1, z.2.x e1⟩)⟩⟩
    · exact absurd (nI_le (show rows.length ≤ k by omega) (by omega)) c13
  | succ d ih =>
    intro k σ1 hkd hm
    have haX := iII.x ha hm.1
    have hrX := hr.x hm.1
    have hk : k < rows.length := by omega
    have hx : rows[k]? = some rows[k] := List.getElem?_eq_getElem hk
    obtain ⟨b, hb1, hb2⟩ := ha.2.2.2.2 k _ hx
    have hb3 : zR σ1 a k = some b := by rw [(hm.1.2 a ha.2.2.1).2.2.2.1]; exact hb1
    have hbX := hb2.x hm.1
    refine zw_iload_n dX6_more__10 rfl ?_
    refine zw_aload_n dX6_more__11 rfl ?_
    refine zw_alen (t := 4) dX6_more__12 haX.1 (by decide) ?_
    rw [haX.2.2.2.1]
    refine zw_icmpge (tgt := 28) dX6_more__13 (by decide) (fun c13 => ?_) (fun c13 => ?_)
    · exact absurd c13 (nI_ge hk (by omega))
    · refine zw_aload_n dX6_more__16 rfl ?_
      refine zw_iload_n dX6_more__17 rfl ?_
      refine zw_aload_n dX6_more__18 rfl ?_
      refine zw_iload_n dX6_more__19 rfl ?_
      refine zw_aaload (t := 4) dX6_more__20 haX.1 rfl (by decide) (zin_of haX.2.2.2.1 (vp_in_nI (by omega) (by omega))) ?_
      rw [nI_clamp (show k < 2 ^ 31 by omega), hb3]
      refine zw_aastoreA (t := 4) (tv := 0) (v := b) dX6_more__21 hm.2.2.1 (by decide) rfl zno_0 hbX.1 hbX.2.1 (by decide) (zin_of hm.2.2.2.1 (vp_in_nI (by omega) (by omega))) ?_
      rw [nI_clamp (show k < 2 ^ 31 by omega)]
      refine zw_iinc dX6_more__22 rfl (by decide) rfl ?_
      refine zw_goto (tgt := 10) dX6_more__25 (by decide) ?_
      refine zw_loc (lc' := [(0, .ref a), (1, .ref r), (2, .ref (zn σ)), (3, .int (nI k + 1))]) (zsub_cons rfl (zsub_cons rfl (zsub_cons rfl (zsub_cons rfl zsub_nil)))) ?_
      rw [nI_1]
      exact ih (k + 1) _ (by omega) (xMoR_step hm hx hb2)
set_option maxHeartbeats 4000000 in
set_option maxRecDepth 100000 in
theorem c_X6_more_ {l : Launch} {σ : zS} {a r : Nat} {rows : List (List Int32)} {xs : List Int32} (ha : iII σ a rows) (hr : iI σ r xs) (hl : rows.length < 1000000) : zAM l zmX6_more_ 0 0 1 (rows.length + 1) [.ref a, .ref r] σ (fun v σ' => v = some (.ref (zn σ)) ∧ zX σ σ' ∧ zn σ' = zn σ + 1 ∧ iII σ' (zn σ) (rows ++ [xs])) := by
  refine zAM.of (by decide +kernel) (Nat.le_of_ble_eq_true rfl) ?_
  refine zw_aload_n dX6_more__0 rfl ?_
  refine zw_alen (t := 4) dX6_more__1 ha.1 (by decide) ?_
  rw [ha.2.2.2.1]
  refine zw_iconst (x := 1) dX6_more__2 rfl ?_
  refine zw_iadd dX6_more__3 ?_
  rw [nI_1]
  refine zw_newA (te := .int) (t := 4) (N := rows.length + 1) dX6_more__4 zclX6_24 (by decide) (by decide) rfl rfl (by omega) ⟨Nat.le_of_ble_eq_true rfl, Nat.le_of_eq (Nat.zero_add _)⟩ ?_
  refine zw_astore_n dX6_more__7 (by decide) rfl ?_
  refine zw_iconst (x := 0) dX6_more__8 rfl ?_
  refine zw_istore_n dX6_more__9 (by decide) rfl ?_
  refine zw_loc (lc' := [(0, .ref a), (1, .ref r), (2, .ref (zn σ)), (3, .int (nI 0))]) (zsub_cons rfl (zsub_cons rfl (zsub_cons rfl (zsub_cons rfl zsub_nil)))) (lp_moreR ha hr hl rows.length 0 _ (Nat.zero_add _) ⟨(zX.rf σ).A1 4 _, rfl, by rw [zK_znA1, if_pos rfl], by rw [zL_znA1, if_pos rfl], fun j x q => absurd q (Nat.not_lt_zero _)⟩)
/-- the first place of a row among rows -/
def hFx (rows : List (List Int32)) (st : List Int32) : Option Nat → Prop
  | some s => rows[s]? = some st ∧ ∀ t, t < s → rows[t]? ≠ some st
  | none => ∀ t : Nat, rows[t]? ≠ some st
def hFv : Option Nat → Int32
  | some s => nI s
  | none => -1
set_option maxHeartbeats 4000000 in
set_option maxRecDepth 100000 in
theorem lp_finds {l : Launch} {σ : zS} (hh : zK σ 30 = 6) {sa a : Nat} {rows : List (List Int32)} {st : List Int32} (hg : zG σ 6 4 30 = some sa) (hs : iII σ sa rows) (ha : iI σ a st) (hl : rows.length < 1000000) (hl2 : st.length < 1000000) {s b : Nat} {r : List Int32} (hsl : s < rows.length) (hb : zR σ sa s = some b) (hr : iI σ b r) (hrl : r.length = st.length) {Q : Option Value → zS → Prop} (KK : ∀ q : Bool, (q = true ↔ r = st) → zAW l zmX6_find { frames := 0, cells := 0, slots := 0, locals := 0 } 55 [(0, .ref 30), (1, .ref a), (2, .int (nI s)), (3, .int (zb q))] [] σ 0 0 Q) : ∀ (d k : Nat) (q : Bool), k + d = st.length → (q = true ↔ ∀ j : Nat, j < k → r[j]? = st[j]?) → zAW l zmX6_find { frames := 0, cells := 0, slots := 0, locals := 0 } 16 [(0, .ref 30), (1, .ref a), (2, .int (nI s)), (3, .int (zb q)), (4, .int (nI k))] [] σ 0 0 Q := by
  intro d
  induction d with
  | zero =>
    intro k q hkd hq
    refine zw_iload dX6_find_16 rfl ?_
    refine zw_aload_n dX6_find_18 rfl ?_
    refine zw_alen (t := 0) dX6_find_19 ha.1 (by decide) ?_
    rw [ha.2.2.2.1]
    refine zw_icmpge (tgt := 55) dX6_find_20 (by decide) (fun c20 => ?_) (fun c20 => ?_)
    · refine zw_loc (lc' := [(0, .ref 30), (1, .ref a), (2, .int (nI s)), (3, .int (zb q))]) (zsub_cons rfl (zsub_cons rfl (zsub_cons rfl (zsub_cons rfl zsub_nil)))) (KK q (hq.trans ⟨fun z => List.ext_getElem? (fun j => ?_), fun z j _ => by rw [z]⟩))
      by_cases e : j < k
      · exact z j e
      · rw [List.getElem?_eq_none (by omega), List.getElem?_eq_none (by omega)]
    · exact absurd (nI_le (show st.length ≤ k by omega) (by omega)) c20
  | succ d ih =>
    intro k q hkd hq
    have hk : k < st.length := by omega
    have hx : st[k]? = some st[k] := List.getElem?_eq_getElem hk
    have hy : r[k]? = some (r[k]'(by omega)) := List.getElem?_eq_getElem (by omega)
    have hv := ha.2.2.2.2 k _ hx
    have hw := hr.2.2.2.2 k _ hy
    refine zw_iload dX6_find_16 rfl ?_
    refine zw_aload_n dX6_find_18 rfl ?_
    refine zw_alen (t := 0) dX6_find_19 ha.1 (by decide) ?_
    rw [ha.2.2.2.1]
    refine zw_icmpge (tgt := 55) dX6_find_20 (by decide) (fun c20 => ?_) (fun c20 => ?_)
    · exact absurd c20 (nI_ge hk (by omega))
    · refine zw_iload_n dX6_find_23 rfl ?_
      refine zw_ifeq (tgt := 47) dX6_find_24 (by decide) (fun c24 => ?_) (fun c24 => ?_)
      · refine zw_iconst (x := 0) dX6_find_47 rfl ?_
        refine zw_istore_n dX6_find_48 (by decide) rfl ?_
        refine zw_iinc dX6_find_49 rfl (by decide) rfl ?_
        refine zw_goto (tgt := 16) dX6_find_52 (by decide) ?_
        replace c24 := zb_0.mp c24
        refine zw_loc (lc' := [(0, .ref 30), (1, .ref a), (2, .int (nI s)), (3, .int (zb false)), (4, .int (nI k + 1))]) (zsub_cons rfl (zsub_cons rfl (zsub_cons rfl (zsub_cons rfl (zsub_cons rfl zsub_nil))))) ?_
        rw [nI_1]
        exact ih (k + 1) false (by omega) ⟨fun z => absurd z (by decide), fun z => absurd (hq.mpr (fun j hj => z j (by omega))) (by rw [c24]; decide)⟩
      · refine zw_aload_n dX6_find_27 rfl ?_
        refine zw_getR dX6_find_28 zfX6_25 rfl hh (by decide) hg ?_
        refine zw_iload_n dX6_find_31 rfl ?_
        refine zw_aaload (t := 4) dX6_find_32 hs.1 rfl (by decide) (zin_of hs.2.2.2.1 (vp_in_nI (by omega) (by omega))) ?_
        rw [nI_clamp (show s < 2 ^ 31 by omega), hb]
        refine zw_iload dX6_find_33 rfl ?_
        refine zw_iaload dX6_find_35 hr.1 (zin_of hr.2.2.2.1 (vp_in_nI (by omega) (by omega))) ?_
        rw [nI_clamp (show k < 2 ^ 31 by omega), hw]
        refine zw_aload_n dX6_find_36 rfl ?_
        refine zw_iload dX6_find_37 rfl ?_
        refine zw_iaload dX6_find_39 ha.1 (zin_of ha.2.2.2.1 (vp_in_nI (by omega) (by omega))) ?_
        rw [nI_clamp (show k < 2 ^ 31 by omega), hv]
        refine zw_icmpne (tgt := 47) dX6_find_40 (by decide) (fun c40 => ?_) (fun c40 => ?_)
        · refine zw_iconst (x := 0) dX6_find_47 rfl ?_
          refine zw_istore_n dX6_find_48 (by decide) rfl ?_
          refine zw_iinc dX6_find_49 rfl (by decide) rfl ?_
          refine zw_goto (tgt := 16) dX6_find_52 (by decide) ?_
          refine zw_loc (lc' := [(0, .ref 30), (1, .ref a), (2, .int (nI s)), (3, .int (zb false)), (4, .int (nI k + 1))]) (zsub_cons rfl (zsub_cons rfl (zsub_cons rfl (zsub_cons rfl (zsub_cons rfl zsub_nil))))) ?_
          rw [nI_1]
          exact ih (k + 1) false (by omega) ⟨fun z => absurd z (by decide), fun z => absurd (z k (by omega)) (by rw [hx, hy]; exact fun e => c40 (Option.some.inj e))⟩
        · refine zw_iconst (x := 1) dX6_find_43 rfl ?_
          refine zw_goto (tgt := 48) dX6_find_44 (by decide) ?_
          refine zw_istore_n dX6_find_48 (by decide) rfl ?_
          refine zw_iinc dX6_find_49 rfl (by decide) rfl ?_
          refine zw_goto (tgt := 16) dX6_find_52 (by decide) ?_
          replace c24 := zb_1.mp c24
          refine zw_loc (lc' := [(0, .ref 30), (1, .ref a), (2, .int (nI s)), (3, .int (zb true)), (4, .int (nI k + 1))]) (zsub_cons rfl (zsub_cons rfl (zsub_cons rfl (zsub_cons rfl (zsub_cons rfl zsub_nil))))) ?_
          rw [nI_1]
          exact ih (k + 1) true (by omega) ⟨fun _ j hj => by
            by_cases e : j = k
            · rw [e, hx, hy, c40]
            · exact hq.mp c24 j (by omega), fun _ => rfl⟩
set_option maxHeartbeats 4000000 in
set_option maxRecDepth 100000 in
theorem lp_find {l : Launch} {σ : zS} (hh : zK σ 30 = 6) {sa a : Nat} {rows : List (List Int32)} {st : List Int32} (hg : zG σ 6 4 30 = some sa) (hs : iII σ sa rows) (ha : iI σ a st) (hl : rows.length < 1000000) (hl2 : st.length < 1000000) (hrl : ∀ r, r ∈ rows → r.length = st.length) {ix : Option Nat} (hix : hFx rows st ix) : ∀ (d s : Nat), s + d = rows.length → (∀ t, t < s → rows[t]? ≠ some st) → zAW l zmX6_find { frames := 0, cells := 0, slots := 0, locals := 0 } 2 [(0, .ref 30), (1, .ref a), (2, .int (nI s))] [] σ 0 0 (fun v σ' => v = some (.int (hFv ix)) ∧ σ' = σ) := by
  intro d
  induction d with
  | zero =>
    intro s hsd hno
    refine zw_iload_n dX6_find_2 rfl ?_
    refine zw_aload_n dX6_find_3 rfl ?_
    refine zw_getR dX6_find_4 zfX6_25 rfl hh (by decide) hg ?_
    refine zw_alen (t := 4) dX6_find_7 hs.1 (by decide) ?_
    rw [hs.2.2.2.1]
    refine zw_icmpge (tgt := 67) dX6_find_8 (by decide) (fun c8 => ?_) (fun c8 => ?_)
    · refine zw_iconst (x := -1) dX6_find_67 rfl ?_
      refine zw_iret dX6_find_68 rfl rfl ?_
      cases ix with
      | none => exact ⟨rfl, rfl⟩
      | some t => exact absurd hix.1 (hno t (by have := (List.getElem?_eq_some_iff.mp hix.1).1; omega))
    · exact absurd (nI_le (show rows.length ≤ s by omega) (by omega)) c8
  | succ d ih =>
    intro s hsd hno
    have hsl : s < rows.length := by omega
    have hx : rows[s]? = some rows[s] := List.getElem?_eq_getElem hsl
    obtain ⟨b, hb1, hb2⟩ := hs.2.2.2.2 s _ hx
    have hr1 := hrl rows[s] (List.getElem_mem hsl)
    refine zw_iload_n dX6_find_2 rfl ?_
    refine zw_aload_n dX6_find_3 rfl ?_
    refine zw_getR dX6_find_4 zfX6_25 rfl hh (by decide) hg ?_
    refine zw_alen (t := 4) dX6_find_7 hs.1 (by decide) ?_
    rw [hs.2.2.2.1]
    refine zw_icmpge (tgt := 67) dX6_find_8 (by decide) (fun c8 => ?_) (fun c8 => ?_)
    · exact absurd c8 (nI_ge hsl (by omega))
    · refine zw_iconst (x := 1) dX6_find_11 rfl ?_
      refine zw_istore_n dX6_find_12 (by decide) rfl ?_
      refine zw_iconst (x := 0) dX6_find_13 rfl ?_
      refine zw_istore dX6_find_14 (by decide) rfl ?_
      refine zw_loc (lc' := [(0, .ref 30), (1, .ref a), (2, .int (nI s)), (3, .int (zb true)), (4, .int (nI 0))]) (zsub_cons rfl (zsub_cons rfl (zsub_cons rfl (zsub_cons rfl (zsub_cons rfl zsub_nil))))) (lp_finds hh hg hs ha hl hl2 hsl hb1 hb2 hr1 (fun q hq => ?_) st.length 0 true (Nat.zero_add _) ⟨fun _ j hj => absurd hj (Nat.not_lt_zero _), fun _ => rfl⟩)
      refine zw_iload_n dX6_find_55 rfl ?_
      refine zw_ifeq (tgt := 61) dX6_find_56 (by decide) (fun c56 => ?_) (fun c56 => ?_)
      · refine zw_iinc dX6_find_61 rfl (by decide) rfl ?_
        refine zw_goto (tgt := 2) dX6_find_64 (by decide) ?_
        replace c56 := zb_0.mp c56
        refine zw_loc (lc' := [(0, .ref 30), (1, .ref a), (2, .int (nI s + 1))]) (zsub_cons rfl (zsub_cons rfl (zsub_cons rfl zsub_nil))) ?_
        rw [nI_1]
        exact ih (s + 1) (by omega) (fun t ht e => by
          by_cases e2 : t = s
          · rw [e2, hx] at e
            exact absurd (hq.mpr (Option.some.inj e)) (by rw [c56]; decide)
          · exact hno t (by omega) e)
      · refine zw_iload_n dX6_find_59 rfl ?_
        refine zw_iret dX6_find_60 rfl rfl ?_
        replace c56 := zb_1.mp c56
        have e1 : rows[s]? = some st := by rw [hx, hq.mp c56]
        cases ix with
        | none => exact absurd e1 (hix s)
        | some t =>
          have e2 : t = s := by
            rcases Nat.lt_trichotomy t s with q1 | q1 | q1
            · exact absurd hix.1 (hno t q1)
            · exact q1
            · exact absurd e1 (hix.2 s q1)
          rw [e2]
          exact ⟨rfl, rfl⟩
set_option maxHeartbeats 4000000 in
set_option maxRecDepth 100000 in
theorem c_X6_find {l : Launch} {σ : zS} (hh : zK σ 30 = 6) {sa a : Nat} {rows : List (List Int32)} {st : List Int32} (hg : zG σ 6 4 30 = some sa) (hs : iII σ sa rows) (ha : iI σ a st) (hl : rows.length < 1000000) (hl2 : st.length < 1000000) (hrl : ∀ r, r ∈ rows → r.length = st.length) {ix : Option Nat} (hix : hFx rows st ix) : zAM l zmX6_find 0 0 0 0 [.ref 30, .ref a] σ (fun v σ' => v = some (.int (hFv ix)) ∧ σ' = σ) := by
  refine zAM.of (by decide +kernel) (Nat.le_of_ble_eq_true rfl) ?_
  refine zw_iconst (x := 0) dX6_find_0 rfl ?_
  refine zw_istore_n dX6_find_1 (by decide) rfl ?_
  refine zw_loc (lc' := [(0, .ref 30), (1, .ref a), (2, .int (nI 0))]) (zsub_cons rfl (zsub_cons rfl (zsub_cons rfl zsub_nil))) (lp_find hh hg hs ha hl hl2 hrl hix rows.length 0 (Nat.zero_add _) (fun t q => absurd q (Nat.not_lt_zero _)))
