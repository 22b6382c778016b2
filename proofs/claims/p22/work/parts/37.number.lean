/-! number, done -/
def zY (σ σ' : zS) : Prop := zn σ ≤ zn σ' ∧ ∀ a, a < zn σ → zK σ' a = zK σ a ∧ zL σ' a = zL σ a ∧ zI σ' a = zI σ a ∧ zR σ' a = zR σ a ∧ ∀ c k, zF σ' c k a = zF σ c k a ∧ (¬ (a = 30 ∧ c = 6 ∧ 4 ≤ k) → zG σ' c k a = zG σ c k a)
theorem zX.y {σ σ' : zS} (h : zX σ σ') : zY σ σ' := ⟨h.1, fun a ha => by
  obtain ⟨b1, b2, b3, b4, b5⟩ := h.2 a ha
  exact ⟨b1, b2, b3, b4, fun c k => ⟨(b5 c k).1, fun _ => (b5 c k).2⟩⟩⟩
theorem zY.rf (σ : zS) : zY σ σ := (zX.rf σ).y
theorem zY.tr {σ σ1 σ2 : zS} (h : zY σ σ1) (h2 : zY σ1 σ2) : zY σ σ2 := by
  refine ⟨Nat.le_trans h.1 h2.1, fun a ha => ?_⟩
  obtain ⟨b1, b2, b3, b4, b5⟩ := h.2 a ha
  obtain ⟨c1, c2, c3, c4, c5⟩ := h2.2 a (Nat.lt_of_lt_of_le ha h.1)
  exact ⟨c1.trans b1, c2.trans b2, c3.trans b3, c4.trans b4, fun c k => ⟨(c5 c k).1.trans (b5 c k).1, fun q => ((c5 c k).2 q).trans ((b5 c k).2 q)⟩⟩
theorem zY.G {σ0 σ : zS} {k : Nat} {x : Option Nat} (h : zY σ0 σ) (hk : 4 ≤ k) : zY σ0 (zsG σ 6 k 30 x) := by
  refine ⟨h.1, fun a ha => ?_⟩
  obtain ⟨b1, b2, b3, b4, b5⟩ := h.2 a ha
  refine ⟨b1, b2, b3, b4, fun c k' => ⟨(b5 c k').1, fun q => ?_⟩⟩
  rw [zG_zsG, if_neg (fun z => q ⟨z.2.2, z.1, by rw [z.2.1]; exact hk⟩)]
  exact (b5 c k').2 q
theorem iI.y {σ σ' : zS} {a : Nat} {xs : List Int32} (h : iI σ a xs) (hx : zY σ σ') : iI σ' a xs := by
  obtain ⟨h1, h2, h3, h4, h5⟩ := h
  obtain ⟨b1, b2, b3, b4, b5⟩ := hx.2 a h3
  exact ⟨b1.trans h1, h2, Nat.lt_of_lt_of_le h3 hx.1, b2.trans h4, fun i x q => by rw [b3]; exact h5 i x q⟩
theorem iR.y {β : Type} {σ σ' : zS} {t a : Nat} {P P' : Nat → β → Prop} {l : List β} (h : iR σ t a P l) (hx : zY σ σ') (hP : ∀ b x, P b x → P' b x) : iR σ' t a P' l := by
  obtain ⟨h1, h2, h3, h4, h5⟩ := h
  obtain ⟨b1, b2, b3, b4, b5⟩ := hx.2 a h3
  refine ⟨b1.trans h1, h2, Nat.lt_of_lt_of_le h3 hx.1, b2.trans h4, fun i x q => ?_⟩
  obtain ⟨b, c1, c2⟩ := h5 i x q
  exact ⟨b, by rw [b4]; exact c1, hP b x c2⟩
theorem iII.y {σ σ' : zS} {a : Nat} {l : List (List Int32)} (h : iII σ a l) (hx : zY σ σ') : iII σ' a l := iR.y h hx (fun _ _ q => q.y hx)
theorem iIII.y {σ σ' : zS} {a : Nat} {l : List (List (List Int32))} (h : iIII σ a l) (hx : zY σ σ') : iIII σ' a l := iR.y h hx (fun _ _ q => iII.y q hx)
theorem iI.set {σ : zS} {a : Nat} {xs : List Int32} (h : iI σ a xs) (i : Nat) (x : Int32) : iI (zsI σ a i x) a (xs.set i x) := by
  refine ⟨h.1, h.2.1, h.2.2.1, by rw [List.length_set]; exact h.2.2.2.1, fun j y hy => ?_⟩
  rw [zI_zsI]
  rw [List.getElem?_set] at hy
  by_cases e : i = j
  · rw [if_pos e] at hy
    rw [if_pos ⟨rfl, e.symm⟩]
    by_cases e2 : i < xs.length
    · rw [if_pos e2] at hy
      exact Option.some.inj hy
    · rw [if_neg e2] at hy
      cases hy
  · rw [if_neg e] at hy
    rw [if_neg (fun q => e q.2.symm)]
    exact h.2.2.2.2 j y hy
/-- the hand's states: rows, and two rows of ints as long -/
def hHd (σ : zS) (rows : List (List Int32)) : Prop := zK σ 30 = 6 ∧ 30 < zn σ ∧ (∃ sa, zG σ 6 4 30 = some sa ∧ iII σ sa rows) ∧ ∀ k, k = 6 ∨ k = 7 → ∃ fa fr, zG σ 6 k 30 = some fa ∧ iI σ fa fr ∧ fr.length = rows.length
set_option maxHeartbeats 4000000 in
set_option maxRecDepth 100000 in
theorem c_X6_number_old {l : Launch} {σ : zS} {rows : List (List Int32)} {a : Nat} {st : List Int32} (hd : hHd σ rows) (ha : iI σ a st) (hl : rows.length < 1000000) (hl2 : st.length < 1000000) (hrl : ∀ r, r ∈ rows → r.length = st.length) {s : Nat} (hix : hFx rows st (some s)) {pa ps : Int32} : zAM l zmX6_number 1 24 0 0 [.ref 30, .ref a, .int pa, .int ps] σ (fun v σ' => v = some (.int (nI s)) ∧ σ' = σ) := by
  refine zAM.of (by decide +kernel) (Nat.le_of_ble_eq_true rfl) ?_
  obtain ⟨hh, h30, ⟨sa, hg, hs⟩, h67⟩ := hd
  have hsl := (List.getElem?_eq_some_iff.mp hix.1).1
  refine zw_aload_n dX6_number_0 rfl ?_
  refine zw_aload_n dX6_number_1 rfl ?_
  refine zw_callV (y' := zmX6_find) dX6_number_2 zlX6_47 zmX6_find_ok hh (by decide) rfl (c_X6_find hh hg hs ha hl hl2 hrl hix) rfl rfl (Nat.le_of_ble_eq_true rfl) ⟨Nat.le_of_ble_eq_true rfl, Nat.le_of_ble_eq_true rfl⟩ ⟨Nat.le_of_ble_eq_true rfl, Nat.le_of_ble_eq_true rfl⟩ ?_
  intro v2 s2 q2
  obtain ⟨rfl, z2⟩ := q2
  rw [z2]
  clear z2
  refine zw_istore dX6_number_5 (by decide) rfl ?_
  refine zw_iload dX6_number_7 rfl ?_
  refine zw_iflt (tgt := 15) dX6_number_9 (by decide) (fun c9 => ?_) (fun c9 => ?_)
  · exact absurd c9 (nI_pos (show s < 2 ^ 31 by omega))
  · refine zw_iload dX6_number_12 rfl ?_
    refine zw_iret dX6_number_14 rfl rfl ?_
    exact ⟨rfl, rfl⟩
set_option maxHeartbeats 4000000 in
set_option maxRecDepth 100000 in
theorem c_X6_number_new {l : Launch} {σ : zS} {rows : List (List Int32)} {a : Nat} {st : List Int32} (hd : hHd σ rows) (ha : iI σ a st) (hl : rows.length < 1000000) (hl2 : st.length < 1000000) (hrl : ∀ r, r ∈ rows → r.length = st.length) (hix : hFx rows st none) {pa ps : Int32} : zAM l zmX6_number 1 24 3 (3 * (rows.length + 1)) [.ref 30, .ref a, .int pa, .int ps] σ (fun v σ' => v = some (.int (nI rows.length)) ∧ zY σ σ' ∧ zn σ' = zn σ + 3 ∧ hHd σ' (rows ++ [st]) ∧ zG σ' 6 5 30 = zG σ 6 5 30) := by
  refine zAM.of (by decide +kernel) (Nat.le_of_ble_eq_true rfl) ?_
  obtain ⟨hh, h30, ⟨sa, hg, hs⟩, h67⟩ := hd
  refine zw_aload_n dX6_number_0 rfl ?_
  refine zw_aload_n dX6_number_1 rfl ?_
  refine zw_callV (y' := zmX6_find) dX6_number_2 zlX6_47 zmX6_find_ok hh (by decide) rfl (c_X6_find hh hg hs ha hl hl2 hrl hix) rfl rfl (Nat.le_of_ble_eq_true rfl) ⟨Nat.le_of_ble_eq_true rfl, Nat.le_of_ble_eq_true rfl⟩ ⟨Nat.le_of_ble_eq_true rfl, Nat.le_of_ble_eq_true rfl⟩ ?_
  intro v2 s2 q2
  obtain ⟨rfl, z2⟩ := q2
  rw [z2]
  clear z2
  refine zw_istore dX6_number_5 (by decide) rfl ?_
  refine zw_iload dX6_number_7 rfl ?_
  refine zw_iflt (tgt := 15) dX6_number_9 (by decide) (fun c9 => ?_) (fun c9 => ?_)
  · refine zw_aload_n dX6_number_15 rfl ?_
    refine zw_aload_n dX6_number_16 rfl ?_
    refine zw_getR dX6_number_17 zfX6_25 rfl hh (by decide) hg ?_
    refine zw_aload_n dX6_number_20 rfl ?_
    refine zw_callS (y' := zmX6_more_) dX6_number_21 zlX6_51 zmX6_more__ok (c_X6_more_ hs ha hl) rfl rfl (Nat.le_of_ble_eq_true rfl) ⟨Nat.le_of_ble_eq_true rfl, Nat.le_of_ble_eq_true rfl⟩ ⟨Nat.le_of_ble_eq_true rfl, show 0 + (rows.length + 1) ≤ 3 * (rows.length + 1) by omega⟩ ?_
    intro v21 s21 q21
    obtain ⟨rfl, x21, n21, r21⟩ := q21
    have hh1 : zK s21 30 = 6 := ((x21.2 30 h30).1).trans hh
    refine zw_putO dX6_number_24 zfX6_25 rfl (Or.inl rfl) hh1 (by decide) ?_
    have y1 : zY σ (zsG s21 6 4 30 (some (zn σ))) := x21.y.G (by decide)
    have g1 : zG (zsG s21 6 4 30 (some (zn σ))) 6 4 30 = some (zn σ) := by rw [zG_zsG, if_pos ⟨rfl, rfl, rfl⟩]
    have f1 : ∀ k, k ≠ 4 → zG (zsG s21 6 4 30 (some (zn σ))) 6 k 30 = zG σ 6 k 30 := fun k hk => by rw [zG_zsG, if_neg (by omega), ((x21.2 30 h30).2.2.2.2 6 k).2]
    have r1 : iII (zsG s21 6 4 30 (some (zn σ))) (zn σ) (rows ++ [st]) := r21
    have n1 : zn (zsG s21 6 4 30 (some (zn σ))) = zn σ + 1 := n21
    have k1 : zK (zsG s21 6 4 30 (some (zn σ))) 30 = 6 := hh1
    generalize zsG s21 6 4 30 (some (zn σ)) = σA at y1 g1 f1 r1 n1 k1 ⊢
    obtain ⟨fa, fr, hgf, hif, hfl⟩ := h67 6 (Or.inl rfl)
    have fA : zG σA 6 6 30 = some fa := (f1 6 (by decide)).trans hgf
    have iA : iI σA fa fr := hif.y y1
    refine zw_aload_n dX6_number_27 rfl ?_
    refine zw_aload_n dX6_number_28 rfl ?_
    refine zw_getR dX6_number_29 zfX6_33 rfl k1 (by decide) fA ?_
    refine zw_iload_n dX6_number_32 rfl ?_
    refine zw_callS (y' := zmX6_more) dX6_number_33 zlX6_55 zmX6_more_ok (c_X6_more (σ := σA) iA (show fr.length < 1000000 by omega)) rfl rfl (Nat.le_of_ble_eq_true rfl) ⟨Nat.le_of_ble_eq_true rfl, Nat.le_of_ble_eq_true rfl⟩ ⟨Nat.le_of_ble_eq_true rfl, show 0 + (rows.length + 1) + (fr.length + 1) ≤ 3 * (rows.length + 1) by omega⟩ ?_
    intro v33 s33 q33
    obtain ⟨rfl, x33, n33, r33⟩ := q33
    have hh2 : zK s33 30 = 6 := ((x33.2 30 (by omega)).1).trans k1
    refine zw_putO dX6_number_36 zfX6_33 rfl (Or.inl rfl) hh2 (by decide) ?_
    have y2 : zY σ (zsG s33 6 6 30 (some (zn σA))) := (y1.tr x33.y).G (by decide)
    have g2 : zG (zsG s33 6 6 30 (some (zn σA))) 6 4 30 = some (zn σ) := by rw [zG_zsG, if_neg (by decide), ((x33.2 30 (by omega)).2.2.2.2 6 4).2]; exact g1
    have q2 : zG (zsG s33 6 6 30 (some (zn σA))) 6 6 30 = some (zn σA) := by rw [zG_zsG, if_pos ⟨rfl, rfl, rfl⟩]
    have f2 : ∀ k, k ≠ 4 → k ≠ 6 → zG (zsG s33 6 6 30 (some (zn σA))) 6 k 30 = zG σ 6 k 30 := fun k hk hk6 => by rw [zG_zsG, if_neg (by omega), ((x33.2 30 (by omega)).2.2.2.2 6 k).2]; exact f1 k hk
    have r2 : iII (zsG s33 6 6 30 (some (zn σA))) (zn σ) (rows ++ [st]) := iII.y r1 (x33.y.G (by decide))
    have i2 : iI (zsG s33 6 6 30 (some (zn σA))) (zn σA) (fr ++ [pa]) := r33
    have n2 : zn (zsG s33 6 6 30 (some (zn σA))) = zn σ + 2 := by rw [show zn (zsG s33 6 6 30 (some (zn σA))) = zn s33 from rfl, n33, n1]
    have k2 : zK (zsG s33 6 6 30 (some (zn σA))) 30 = 6 := hh2
    generalize zsG s33 6 6 30 (some (zn σA)) = σB at y2 g2 q2 f2 r2 i2 n2 k2 ⊢
    obtain ⟨fb, gr, hgg, hig, hgl⟩ := h67 7 (Or.inr rfl)
    have fB : zG σB 6 7 30 = some fb := (f2 7 (by decide) (by decide)).trans hgg
    have iB : iI σB fb gr := hig.y y2
    refine zw_aload_n dX6_number_39 rfl ?_
    refine zw_aload_n dX6_number_40 rfl ?_
    refine zw_getR dX6_number_41 zfX6_36 rfl k2 (by decide) fB ?_
    refine zw_iload_n dX6_number_44 rfl ?_
    refine zw_callS (y' := zmX6_more) dX6_number_45 zlX6_55 zmX6_more_ok (c_X6_more (σ := σB) iB (show gr.length < 1000000 by omega)) rfl rfl (Nat.le_of_ble_eq_true rfl) ⟨Nat.le_of_ble_eq_true rfl, Nat.le_of_ble_eq_true rfl⟩ ⟨Nat.le_of_ble_eq_true rfl, show 0 + (rows.length + 1) + (fr.length + 1) + (gr.length + 1) ≤ 3 * (rows.length + 1) by omega⟩ ?_
    intro v45 s45 q45
    obtain ⟨rfl, x45, n45, r45⟩ := q45
    have hh3 : zK s45 30 = 6 := ((x45.2 30 (by omega)).1).trans k2
    refine zw_putO dX6_number_48 zfX6_36 rfl (Or.inl rfl) hh3 (by decide) ?_
    have y3 : zY σ (zsG s45 6 7 30 (some (zn σB))) := (y2.tr x45.y).G (by decide)
    have g3 : zG (zsG s45 6 7 30 (some (zn σB))) 6 4 30 = some (zn σ) := by rw [zG_zsG, if_neg (by decide), ((x45.2 30 (by omega)).2.2.2.2 6 4).2]; exact g2
    have q3 : zG (zsG s45 6 7 30 (some (zn σB))) 6 6 30 = some (zn σA) := by rw [zG_zsG, if_neg (by decide), ((x45.2 30 (by omega)).2.2.2.2 6 6).2]; exact q2
    have p3 : zG (zsG s45 6 7 30 (some (zn σB))) 6 7 30 = some (zn σB) := by rw [zG_zsG, if_pos ⟨rfl, rfl, rfl⟩]
    have f3 : zG (zsG s45 6 7 30 (some (zn σB))) 6 5 30 = zG σ 6 5 30 := by rw [zG_zsG, if_neg (by decide), ((x45.2 30 (by omega)).2.2.2.2 6 5).2]; exact f2 5 (by decide) (by decide)
    have r3 : iII (zsG s45 6 7 30 (some (zn σB))) (zn σ) (rows ++ [st]) := iII.y r2 (x45.y.G (by decide))
    have i3 : iI (zsG s45 6 7 30 (some (zn σB))) (zn σA) (fr ++ [pa]) := i2.y (x45.y.G (by decide))
    have j3 : iI (zsG s45 6 7 30 (some (zn σB))) (zn σB) (gr ++ [ps]) := r45
    have n3 : zn (zsG s45 6 7 30 (some (zn σB))) = zn σ + 3 := by rw [show zn (zsG s45 6 7 30 (some (zn σB))) = zn s45 from rfl, n45, n2]
    have k3 : zK (zsG s45 6 7 30 (some (zn σB))) 30 = 6 := hh3
    generalize zsG s45 6 7 30 (some (zn σB)) = σC at y3 g3 q3 p3 f3 r3 i3 j3 n3 k3 ⊢
    refine zw_aload_n dX6_number_51 rfl ?_
    refine zw_getR dX6_number_52 zfX6_25 rfl k3 (by decide) g3 ?_
    refine zw_alen (t := 4) dX6_number_55 r3.1 (by decide) ?_
    rw [r3.2.2.2.1, List.length_append, List.length_singleton]
    refine zw_iconst (x := 1) dX6_number_56 rfl ?_
    refine zw_isub dX6_number_57 ?_
    refine zw_iret dX6_number_58 rfl rfl ?_
    rw [nI_pred]
    refine ⟨rfl, y3, n3, ⟨k3, by omega, ⟨zn σ, g3, r3⟩, fun k hk => ?_⟩, f3⟩
    rcases hk with rfl | rfl
    · exact ⟨zn σA, fr ++ [pa], q3, i3, by rw [List.length_append, List.length_append, hfl]; rfl⟩
    · exact ⟨zn σB, gr ++ [ps], p3, j3, by rw [List.length_append, List.length_append, hgl]; rfl⟩
  · exact absurd (show (-1 : Int32) < 0 by decide) c9
