/-! more and number, with a word about the ids -/
set_option maxHeartbeats 4000000 in
set_option maxRecDepth 100000 in
theorem lp_moreG {l : Launch} {σ : zS} {P : Nat → List Int32 → Prop} (hPI : ∀ b ys, P b ys → iI σ b ys) {a r : Nat} {rows : List (List Int32)} {xs : List Int32} (ha : iR σ 4 a P rows) (hr : P r xs) (hl : rows.length < 1000000) {uc us : Nat} : ∀ (d k : Nat) (σ1 : zS), k + d = rows.length → xMoR σ σ1 4 (rows.length + 1) P rows k → zAW l zmX6_more_ { frames := 0, cells := 1, slots := rows.length + 1, locals := 0 } 10 [(0, .ref a), (1, .ref r), (2, .ref (zn σ)), (3, .int (nI k))] [] σ1 uc us (fun v σ' => v = some (.ref (zn σ)) ∧ zX σ σ' ∧ zn σ' = zn σ + 1 ∧ iR σ' 4 (zn σ) P (rows ++ [xs])) := by
  have hzp : 0 < zn σ := Nat.lt_of_le_of_lt (Nat.zero_le a) ha.2.2.1
  intro d
  induction d with
  | zero =>
    intro k σ1 hkd hm
    have haX := iR.x ha hm.1 (fun _ _ q => q)
    have hrX := (hPI _ _ hr).x hm.1
    refine zw_iload_n dX6_more__10 rfl ?_
    refine zw_aload_n dX6_more__11 rfl ?_
    refine zw_alen (t := 4) dX6_more__12 haX.1 (by decide) ?_
    rw [haX.2.2.2.1]
    refine zw_icmpge (tgt := 28) dX6_more__13 (by decide) (fun c13 => ?_) (fun c13 => ?_)
    · refine zw_aload_n dX6_more__28 rfl ?_
      refine zw_aload_n dX6_more__29 rfl ?_
      refine zw_alen (t := 4) dX6_more__30 haX.1 (by decide) ?_
      rw [haX.2.2.2.1]
      refine zw_aload_n dX6_more__31 rfl ?_
      refine zw_aastoreA (t := 4) (tv := 0) (v := r) dX6_more__32 hm.2.2.1 (by decide) rfl zno_0 hrX.1 hrX.2.1 (by decide) (zin_of hm.2.2.2.1 (vp_in_nI (by omega) (by omega))) ?_
      rw [nI_clamp (show rows.length < 2 ^ 31 by omega)]
      refine zw_aload_n dX6_more__33 rfl ?_
      refine zw_aret dX6_more__34 rfl (Or.inr ⟨_, rfl⟩) ?_
      obtain rfl : k = rows.length := by omega
      obtain ⟨e1, e2, e3⟩ := xMoR_end hm hzp hr
      exact ⟨rfl, e1, e2, e3⟩
    · exact absurd (nI_le (show rows.length ≤ k by omega) (by omega)) c13
  | succ d ih =>
    intro k σ1 hkd hm
    have haX := iR.x ha hm.1 (fun _ _ q => q)
    have hrX := (hPI _ _ hr).x hm.1
    have hk : k < rows.length := by omega
    have hx : rows[k]? = some rows[k] := List.getElem?_eq_getElem hk
    obtain ⟨b, hb1, hb2⟩ := ha.2.2.2.2 k _ hx
    have hb3 : zR σ1 a k = some b := by rw [(hm.1.2 a ha.2.2.1).2.2.2.1]; exact hb1
    have hbX := (hPI _ _ hb2).x hm.1
    refine zw_iload_n dX6_more__10 rfl ?_
    refine zw_aload_n dX6_more__11 rfl ?_
    refine zw_alen (t := 4) dX6_more__12 haX.1 (by decide) ?_
    rw [haX.2.2.2.1]
    refine zw_icmpge (tgt := 28) dX6_more__13 (by decide) (fun c13 => ?_) (fun c13 => ?_)
    · exact absurd c13 (nI_ge hk (by omega))
    · refine zw_aload_n dX6_more__16 rfl ?_
      refine zw_iload_n dX6_more__17 rfl ?_
      refine zw_aload_n dX6_more__18 rfl ?_
      refine zw_iload_n dX6_more__19 rfl ?_
      refine zw_aaload (t := 4) dX6_more__20 haX.1 rfl (by decide) (zin_of haX.2.2.2.1 (vp_in_nI (by omega) (by omega))) ?_
      rw [nI_clamp (show k < 2 ^ 31 by omega), hb3]
      refine zw_aastoreA (t := 4) (tv := 0) (v := b) dX6_more__21 hm.2.2.1 (by decide) rfl zno_0 hbX.1 hbX.2.1 (by decide) (zin_of hm.2.2.2.1 (vp_in_nI (by omega) (by omega))) ?_
      rw [nI_clamp (show k < 2 ^ 31 by omega)]
      refine zw_iinc dX6_more__22 rfl (by decide) rfl ?_
      refine zw_goto (tgt := 10) dX6_more__25 (by decide) ?_
      refine zw_loc (lc' := [(0, .ref a), (1, .ref r), (2, .ref (zn σ)), (3, .int (nI k + 1))]) (zsub_cons rfl (zsub_cons rfl (zsub_cons rfl (zsub_cons rfl zsub_nil)))) ?_
      rw [nI_1]
      exact ih (k + 1) _ (by omega) (xMoR_step hm hx hb2)
set_option maxHeartbeats 4000000 in
set_option maxRecDepth 100000 in
theorem c_X6_more_g {l : Launch} {σ : zS} {P : Nat → List Int32 → Prop} (hPI : ∀ b ys, P b ys → iI σ b ys) {a r : Nat} {rows : List (List Int32)} {xs : List Int32} (ha : iR σ 4 a P rows) (hr : P r xs) (hl : rows.length < 1000000) : zAM l zmX6_more_ 0 0 1 (rows.length + 1) [.ref a, .ref r] σ (fun v σ' => v = some (.ref (zn σ)) ∧ zX σ σ' ∧ zn σ' = zn σ + 1 ∧ iR σ' 4 (zn σ) P (rows ++ [xs])) := by
  refine zAM.of (by decide +kernel) (Nat.le_of_ble_eq_true rfl) ?_
  refine zw_aload_n dX6_more__0 rfl ?_
  refine zw_alen (t := 4) dX6_more__1 ha.1 (by decide) ?_
  rw [ha.2.2.2.1]
  refine zw_iconst (x := 1) dX6_more__2 rfl ?_
  refine zw_iadd dX6_more__3 ?_
  rw [nI_1]
  refine zw_newA (te := .int) (t := 4) (N := rows.length + 1) dX6_more__4 zclX6_24 (by decide) (by decide) rfl rfl (by omega) ⟨Nat.le_of_ble_eq_true rfl, Nat.le_of_eq (Nat.zero_add _)⟩ ?_
  refine zw_astore_n dX6_more__7 (by decide) rfl ?_
  refine zw_iconst (x := 0) dX6_more__8 rfl ?_
  refine zw_istore_n dX6_more__9 (by decide) rfl ?_
  refine zw_loc (lc' := [(0, .ref a), (1, .ref r), (2, .ref (zn σ)), (3, .int (nI 0))]) (zsub_cons rfl (zsub_cons rfl (zsub_cons rfl (zsub_cons rfl zsub_nil)))) (lp_moreG hPI ha hr hl rows.length 0 _ (Nat.zero_add _) ⟨(zX.rf σ).A1 4 _, rfl, by rw [zK_znA1, if_pos rfl], by rw [zL_znA1, if_pos rfl], fun j x q => absurd q (Nat.not_lt_zero _)⟩)
/-- the hand's states, their ids told by P -/
def hHdP (P : Nat → Prop) (σ : zS) (rows : List (List Int32)) : Prop := zK σ 30 = 6 ∧ 30 < zn σ ∧ (∃ sa, zG σ 6 4 30 = some sa ∧ P sa ∧ iR σ 4 sa (fun b xs => P b ∧ iI σ b xs) rows) ∧ ∀ k, k = 6 ∨ k = 7 → ∃ fa fr, zG σ 6 k 30 = some fa ∧ P fa ∧ iI σ fa fr ∧ fr.length = rows.length
theorem iR.mono {β : Type} {σ : zS} {t a : Nat} {P P' : Nat → β → Prop} {l : List β} (h : iR σ t a P l) (hP : ∀ b x, P b x → P' b x) : iR σ t a P' l :=
  ⟨h.1, h.2.1, h.2.2.1, h.2.2.2.1, fun i x q => (h.2.2.2.2 i x q).imp (fun b z => ⟨z.1, hP b x z.2⟩)⟩
theorem hHdP.hd {P : Nat → Prop} {σ : zS} {rows : List (List Int32)} (h : hHdP P σ rows) : hHd σ rows := by
  obtain ⟨h1, h2, ⟨sa, h3, -, h4⟩, h5⟩ := h
  exact ⟨h1, h2, ⟨sa, h3, h4.mono (fun _ _ q => q.2)⟩, fun k hk => (h5 k hk).imp (fun fa q => q.imp (fun fr z => ⟨z.1, z.2.2⟩))⟩
theorem hHd.p {P : Nat → Prop} {σ : zS} {rows : List (List Int32)} (h : hHd σ rows) (hP : ∀ i, i < zn σ → P i) : hHdP P σ rows := by
  obtain ⟨h1, h2, ⟨sa, h3, h4⟩, h5⟩ := h
  exact ⟨h1, h2, ⟨sa, h3, hP sa h4.2.2.1, iR.mono h4 (fun b xs q => ⟨hP b q.2.2.1, q⟩)⟩, fun k hk => (h5 k hk).imp (fun fa q => q.imp (fun fr z => ⟨z.1, hP fa z.2.1.2.2.1, z.2⟩))⟩
theorem iI.ne {σ : zS} {a b i : Nat} {x : Int32} {xs : List Int32} (h : iI σ b xs) (hne : b ≠ a) : iI (zsI σ a i x) b xs :=
  ⟨h.1, h.2.1, h.2.2.1, h.2.2.2.1, fun j y q => by rw [zI_zsI, if_neg (fun z => hne z.1)]; exact h.2.2.2.2 j y q⟩
theorem hHdP.I {σ : zS} {a i : Nat} {x : Int32} {rows : List (List Int32)} (h : hHdP (fun b => b ≠ a) σ rows) : hHdP (fun b => b ≠ a) (zsI σ a i x) rows := by
  obtain ⟨h1, h2, ⟨sa, h3, hp, h4⟩, h5⟩ := h
  exact ⟨h1, h2, ⟨sa, h3, hp, ⟨h4.1, h4.2.1, h4.2.2.1, h4.2.2.2.1, fun j y q => (h4.2.2.2.2 j y q).imp (fun b z => ⟨z.1, z.2.1, z.2.2.ne z.2.1⟩)⟩⟩, fun k hk => (h5 k hk).imp (fun fa q => q.imp (fun fr z => ⟨z.1, z.2.1, z.2.2.1.ne z.2.1, z.2.2.2⟩))⟩
theorem hHdP.x {P : Nat → Prop} {σ σ' : zS} {rows : List (List Int32)} (h : hHdP P σ rows) (hx : zX σ σ') : hHdP P σ' rows := by
  obtain ⟨h1, h2, ⟨sa, h3, hp, h4⟩, h5⟩ := h
  obtain ⟨b1, b2, b3, b4, b5⟩ := hx.2 30 h2
  refine ⟨b1.trans h1, Nat.lt_of_lt_of_le h2 hx.1, ⟨sa, (b5 6 4).2.trans h3, hp, iR.x h4 hx (fun _ _ q => ⟨q.1, q.2.x hx⟩)⟩, fun k hk => ?_⟩
  obtain ⟨fa, fr, c1, c2, c3, c4⟩ := h5 k hk
  exact ⟨fa, fr, (b5 6 k).2.trans c1, c2, c3.x hx, c4⟩
set_option maxHeartbeats 4000000 in
set_option maxRecDepth 100000 in
theorem c_X6_number_g {l : Launch} {σ : zS} {P : Nat → Prop} {rows : List (List Int32)} {a : Nat} {st : List Int32} (hd : hHdP P σ rows) (ha : iI σ a st) (hPa : P a) (hPn : ∀ i, zn σ ≤ i → P i) (hl : rows.length < 1000000) (hl2 : st.length < 1000000) (hrl : ∀ r, r ∈ rows → r.length = st.length) (hix : hFx rows st none) {pa ps : Int32} : zAM l zmX6_number 1 24 3 (3 * (rows.length + 1)) [.ref 30, .ref a, .int pa, .int ps] σ (fun v σ' => v = some (.int (nI rows.length)) ∧ zY σ σ' ∧ zn σ' = zn σ + 3 ∧ hHdP P σ' (rows ++ [st]) ∧ zG σ' 6 5 30 = zG σ 6 5 30) := by
  refine zAM.of (by decide +kernel) (Nat.le_of_ble_eq_true rfl) ?_
  obtain ⟨hh, h30, ⟨sa, hg, -, hs⟩, h67⟩ := hd
  refine zw_aload_n dX6_number_0 rfl ?_
  refine zw_aload_n dX6_number_1 rfl ?_
  refine zw_callV (y' := zmX6_find) dX6_number_2 zlX6_47 zmX6_find_ok hh (by decide) rfl (c_X6_find hh hg (iR.mono hs (fun _ _ q => q.2)) ha hl hl2 hrl hix) rfl rfl (Nat.le_of_ble_eq_true rfl) ⟨Nat.le_of_ble_eq_true rfl, Nat.le_of_ble_eq_true rfl⟩ ⟨Nat.le_of_ble_eq_true rfl, Nat.le_of_ble_eq_true rfl⟩ ?_
  intro v2 s2 q2
  obtain ⟨rfl, z2⟩ := q2
  rw [z2]
  clear z2
  refine zw_istore dX6_number_5 (by decide) rfl ?_
  refine zw_iload dX6_number_7 rfl ?_
  refine zw_iflt (tgt := 15) dX6_number_9 (by decide) (fun c9 => ?_) (fun c9 => ?_)
  · refine zw_aload_n dX6_number_15 rfl ?_
    refine zw_aload_n dX6_number_16 rfl ?_
    refine zw_getR dX6_number_17 zfX6_25 rfl hh (by decide) hg ?_
    refine zw_aload_n dX6_number_20 rfl ?_
    refine zw_callS (y' := zmX6_more_) dX6_number_21 zlX6_51 zmX6_more__ok (c_X6_more_g (P := fun b xs => P b ∧ iI σ b xs) (fun _ _ q => q.2) hs ⟨hPa, ha⟩ hl) rfl rfl (Nat.le_of_ble_eq_true rfl) ⟨Nat.le_of_ble_eq_true rfl, Nat.le_of_ble_eq_true rfl⟩ ⟨Nat.le_of_ble_eq_true rfl, show 0 + (rows.length + 1) ≤ 3 * (rows.length + 1) by omega⟩ ?_
    intro v21 s21 q21
    obtain ⟨rfl, x21, n21, r21⟩ := q21
    have hh1 : zK s21 30 = 6 := ((x21.2 30 h30).1).trans hh
    refine zw_putO dX6_number_24 zfX6_25 rfl (Or.inl rfl) hh1 (by decide) ?_
    have y1 : zY σ (zsG s21 6 4 30 (some (zn σ))) := x21.y.G (by decide)
    have g1 : zG (zsG s21 6 4 30 (some (zn σ))) 6 4 30 = some (zn σ) := by rw [zG_zsG, if_pos ⟨rfl, rfl, rfl⟩]
    have f1 : ∀ k, k ≠ 4 → zG (zsG s21 6 4 30 (some (zn σ))) 6 k 30 = zG σ 6 k 30 := fun k hk => by rw [zG_zsG, if_neg (by omega), ((x21.2 30 h30).2.2.2.2 6 k).2]
    have r1 : iR (zsG s21 6 4 30 (some (zn σ))) 4 (zn σ) (fun b xs => P b ∧ iI (zsG s21 6 4 30 (some (zn σ))) b xs) (rows ++ [st]) := iR.mono (show iR (zsG s21 6 4 30 (some (zn σ))) 4 (zn σ) (fun b xs => P b ∧ iI σ b xs) (rows ++ [st]) from r21) (fun b xs q => ⟨q.1, q.2.y y1⟩)
    have n1 : zn (zsG s21 6 4 30 (some (zn σ))) = zn σ + 1 := n21
    have k1 : zK (zsG s21 6 4 30 (some (zn σ))) 30 = 6 := hh1
    generalize zsG s21 6 4 30 (some (zn σ)) = σA at y1 g1 f1 r1 n1 k1 ⊢
    obtain ⟨fa, fr, hgf, -, hif, hfl⟩ := h67 6 (Or.inl rfl)
    have fA : zG σA 6 6 30 = some fa := (f1 6 (by decide)).trans hgf
    have iA : iI σA fa fr := hif.y y1
    refine zw_aload_n dX6_number_27 rfl ?_
    refine zw_aload_n dX6_number_28 rfl ?_
    refine zw_getR dX6_number_29 zfX6_33 rfl k1 (by decide) fA ?_
    refine zw_iload_n dX6_number_32 rfl ?_
    refine zw_callS (y' := zmX6_more) dX6_number_33 zlX6_55 zmX6_more_ok (c_X6_more (σ := σA) iA (show fr.length < 1000000 by omega)) rfl rfl (Nat.le_of_ble_eq_true rfl) ⟨Nat.le_of_ble_eq_true rfl, Nat.le_of_ble_eq_true rfl⟩ ⟨Nat.le_of_ble_eq_true rfl, show 0 + (rows.length + 1) + (fr.length + 1) ≤ 3 * (rows.length + 1) by omega⟩ ?_
    intro v33 s33 q33
    obtain ⟨rfl, x33, n33, r33⟩ := q33
    have hh2 : zK s33 30 = 6 := ((x33.2 30 (by omega)).1).trans k1
    refine zw_putO dX6_number_36 zfX6_33 rfl (Or.inl rfl) hh2 (by decide) ?_
    have y2 : zY σ (zsG s33 6 6 30 (some (zn σA))) := (y1.tr x33.y).G (by decide)
    have g2 : zG (zsG s33 6 6 30 (some (zn σA))) 6 4 30 = some (zn σ) := by rw [zG_zsG, if_neg (by decide), ((x33.2 30 (by omega)).2.2.2.2 6 4).2]; exact g1
    have q2 : zG (zsG s33 6 6 30 (some (zn σA))) 6 6 30 = some (zn σA) := by rw [zG_zsG, if_pos ⟨rfl, rfl, rfl⟩]
    have f2 : ∀ k, k ≠ 4 → k ≠ 6 → zG (zsG s33 6 6 30 (some (zn σA))) 6 k 30 = zG σ 6 k 30 := fun k hk hk6 => by rw [zG_zsG, if_neg (by omega), ((x33.2 30 (by omega)).2.2.2.2 6 k).2]; exact f1 k hk
    have r2 : iR (zsG s33 6 6 30 (some (zn σA))) 4 (zn σ) (fun b xs => P b ∧ iI (zsG s33 6 6 30 (some (zn σA))) b xs) (rows ++ [st]) := iR.y r1 (x33.y.G (by decide)) (fun b xs q => ⟨q.1, q.2.y (x33.y.G (by decide))⟩)
    have i2 : iI (zsG s33 6 6 30 (some (zn σA))) (zn σA) (fr ++ [pa]) := r33
    have n2 : zn (zsG s33 6 6 30 (some (zn σA))) = zn σ + 2 := by rw [show zn (zsG s33 6 6 30 (some (zn σA))) = zn s33 from rfl, n33, n1]
    have k2 : zK (zsG s33 6 6 30 (some (zn σA))) 30 = 6 := hh2
    generalize zsG s33 6 6 30 (some (zn σA)) = σB at y2 g2 q2 f2 r2 i2 n2 k2 ⊢
    obtain ⟨fb, gr, hgg, -, hig, hgl⟩ := h67 7 (Or.inr rfl)
    have fB : zG σB 6 7 30 = some fb := (f2 7 (by decide) (by decide)).trans hgg
    have iB : iI σB fb gr := hig.y y2
    refine zw_aload_n dX6_number_39 rfl ?_
    refine zw_aload_n dX6_number_40 rfl ?_
    refine zw_getR dX6_number_41 zfX6_36 rfl k2 (by decide) fB ?_
    refine zw_iload_n dX6_number_44 rfl ?_
    refine zw_callS (y' := zmX6_more) dX6_number_45 zlX6_55 zmX6_more_ok (c_X6_more (σ := σB) iB (show gr.length < 1000000 by omega)) rfl rfl (Nat.le_of_ble_eq_true rfl) ⟨Nat.le_of_ble_eq_true rfl, Nat.le_of_ble_eq_true rfl⟩ ⟨Nat.le_of_ble_eq_true rfl, show 0 + (rows.length + 1) + (fr.length + 1) + (gr.length + 1) ≤ 3 * (rows.length + 1) by omega⟩ ?_
    intro v45 s45 q45
    obtain ⟨rfl, x45, n45, r45⟩ := q45
    have hh3 : zK s45 30 = 6 := ((x45.2 30 (by omega)).1).trans k2
    refine zw_putO dX6_number_48 zfX6_36 rfl (Or.inl rfl) hh3 (by decide) ?_
    have y3 : zY σ (zsG s45 6 7 30 (some (zn σB))) := (y2.tr x45.y).G (by decide)
    have g3 : zG (zsG s45 6 7 30 (some (zn σB))) 6 4 30 = some (zn σ) := by rw [zG_zsG, if_neg (by decide), ((x45.2 30 (by omega)).2.2.2.2 6 4).2]; exact g2
    have q3 : zG (zsG s45 6 7 30 (some (zn σB))) 6 6 30 = some (zn σA) := by rw [zG_zsG, if_neg (by decide), ((x45.2 30 (by omega)).2.2.2.2 6 6).2]; exact q2
    have p3 : zG (zsG s45 6 7 30 (some (zn σB))) 6 7 30 = some (zn σB) := by rw [zG_zsG, if_pos ⟨rfl, rfl, rfl⟩]
    have f3 : zG (zsG s45 6 7 30 (some (zn σB))) 6 5 30 = zG σ 6 5 30 := by rw [zG_zsG, if_neg (by decide), ((x45.2 30 (by omega)).2.2.2.2 6 5).2]; exact f2 5 (by decide) (by decide)
    have r3 : iR (zsG s45 6 7 30 (some (zn σB))) 4 (zn σ) (fun b xs => P b ∧ iI (zsG s45 6 7 30 (some (zn σB))) b xs) (rows ++ [st]) := iR.y r2 (x45.y.G (by decide)) (fun b xs q => ⟨q.1, q.2.y (x45.y.G (by decide))⟩)
    have i3 : iI (zsG s45 6 7 30 (some (zn σB))) (zn σA) (fr ++ [pa]) := i2.y (x45.y.G (by decide))
    have j3 : iI (zsG s45 6 7 30 (some (zn σB))) (zn σB) (gr ++ [ps]) := r45
    have n3 : zn (zsG s45 6 7 30 (some (zn σB))) = zn σ + 3 := by rw [show zn (zsG s45 6 7 30 (some (zn σB))) = zn s45 from rfl, n45, n2]
    have k3 : zK (zsG s45 6 7 30 (some (zn σB))) 30 = 6 := hh3
    generalize zsG s45 6 7 30 (some (zn σB)) = σC at y3 g3 q3 p3 f3 r3 i3 j3 n3 k3 ⊢
    refine zw_aload_n dX6_number_51 rfl ?_
    refine zw_getR dX6_number_52 zfX6_25 rfl k3 (by decide) g3 ?_
    refine zw_alen (t := 4) dX6_number_55 r3.1 (by decide) ?_
    rw [r3.2.2.2.1, List.length_append, List.length_singleton]
    refine zw_iconst (x := 1) dX6_number_56 rfl ?_
    refine zw_isub dX6_number_57 ?_
    refine zw_iret dX6_number_58 rfl rfl ?_
    rw [nI_pred]
    refine ⟨rfl, y3, n3, ⟨k3, by omega, ⟨zn σ, g3, hPn _ (Nat.le_refl _), r3⟩, fun k hk => ?_⟩, f3⟩
    rcases hk with rfl | rfl
    · exact ⟨zn σA, fr ++ [pa], q3, hPn _ y1.1, i3, by rw [List.length_append, List.length_append, hfl]; rfl⟩
    · exact ⟨zn σB, gr ++ [ps], p3, hPn _ y2.1, j3, by rw [List.length_append, List.length_append, hgl]; rfl⟩
  · exact absurd (show (-1 : Int32) < 0 by decide) c9
