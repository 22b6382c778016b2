/-! the law's ways -/
theorem xEx.par {σ : zS} {P pk n : Nat} {fs dep par pst : Nat → Nat} {E : Nat → List Nat} (h : xEx σ P pk n fs dep par pst E) : (∀ t, t < n → zI σ 11 t = nI (par t) ∧ par t < n) ∧ (∀ t, t < n → par t < n) ∧ (∀ t, t < n → zI σ 10 t = nI (dep t) ∧ dep t ≤ t) ∧ (∀ t, t < n → 0 < dep t → dep (par t) + 1 = dep t ∧ zI σ 12 t = nI (pst t) ∧ (E (par t))[pst t]? = some t) ∧ ∀ t, t < n → dep t = 0 → t = 0 := by
  obtain ⟨-, -, -, -, -, -, -, d1, ⟨d2, -⟩, d3, -⟩ := h
  refine ⟨fun t ht => ⟨(d1 t ht).2.1, (d1 t ht).2.2.2⟩, fun t ht => (d1 t ht).2.2.2, fun t ht => ⟨(d1 t ht).1, (d1 t ht).2.2.1⟩, fun t ht h0 => ?_, fun t ht h0 => ?_⟩
  · have e : 0 < t := by
      rcases Nat.eq_zero_or_pos t with q | q
      · rw [q, d2] at h0; omega
      · exact q
    obtain ⟨-, -, a3, a4, a5⟩ := d3 t e ht
    exact ⟨a3.symm, a4, a5⟩
  · rcases Nat.eq_zero_or_pos t with q | q
    · exact q
    · have := (d3 t q ht).2.2.1
      omega
set_option maxHeartbeats 4000000 in
set_option maxRecDepth 100000 in
theorem lp_w1 {l : Launch} {σ : zS} {ls G : List Int32} {pk n fa : Nat} {fs dep par pst : Nat → Nat} {E : Nat → List Nat} (wl : wL σ ls G pk n fs dep par pst E fa) {s uc us : Nat} (hs : s < n) (hu1 : uc ≤ 600086) (hu2 : us ≤ 7301442) (K : zAW l zmL_lw { frames := 10, cells := 600086, slots := 7301442, locals := 360 } 157 [(0, .ref 0), (1, .ref 1), (2, .ref 30), (3, .int (nI n)), (4, .ref fa), (5, .int (nI s)), (6, .int (nI (dep s))), (7, .int (nI s)), (8, .int (nI (dep s)))] [] σ uc us (fun v _ => v = some (.int 1))) : ∀ (d k : Nat), k + d = dep s → zAW l zmL_lw { frames := 10, cells := 600086, slots := 7301442, locals := 360 } 97 [(0, .ref 0), (1, .ref 1), (2, .ref 30), (3, .int (nI n)), (4, .ref fa), (5, .int (nI s)), (6, .int (nI (dep s))), (7, .int (nI (xUp par d s))), (8, .int (nI k))] [] σ uc us (fun v _ => v = some (.int 1)) := by
  have hn := wl.1.2.2.2.2.1.2.1
  obtain ⟨pp, pn, pd, px, p0⟩ := wl.1.par
  have hDs := (pd s hs).2
  intro d
  induction d with
  | zero =>
    intro k hd
    have e : k = dep s := by omega
    subst e
    refine zw_iload dL_law_97 rfl ?_
    refine zw_iload dL_law_99 rfl ?_
    refine zw_icmpge (tgt := 157) dL_law_101 (by decide) (fun c101 => ?_) (fun c101 => ?_)
    · exact K
    · exact absurd (nI_le (Nat.le_refl _) (by omega)) c101
  | succ d ih =>
    intro k hd
    have hx := xUp_lt pn d s hs
    have hdx := xUp_dep pn (fun t ht h0 => (px t ht h0).1) d s hs (by omega)
    have ea : xUp par (d + 1) s = par (xUp par d s) := xUp_succ par d s
    rw [ea]
    generalize hxe : xUp par d s = x at hx hdx ⊢
    obtain ⟨g1, g2, g3⟩ := px x hx (by omega)
    have hax := pn x hx
    have hda : dep (par x) = k := by omega
    have hps : pst x < (E (par x)).length := (List.getElem?_eq_some_iff.mp g3).1
    obtain ⟨-, t2, -, -⟩ := wl.1.tg hax g3
    refine zw_iload dL_law_97 rfl ?_
    refine zw_iload dL_law_99 rfl ?_
    refine zw_icmpge (tgt := 157) dL_law_101 (by decide) (fun c101 => ?_) (fun c101 => ?_)
    · exact absurd c101 (nI_ge (show k < dep s by omega) (by omega))
    · refine zw_aload_n dL_law_104 rfl ?_
      refine zw_iload dL_law_105 rfl ?_
      refine zw_iload dL_law_107 rfl ?_
      refine zw_iconst (x := 0) dL_law_109 rfl ?_
      refine zw_callV (y' := zmX5_way) dL_law_110 zlL_92 zmX5_way_ok (xk_1 wl.1.1) (by decide) rfl (c_X5_way_0 wl.1.1 (wl.1.st hs).1 (wl.1.st hs).2.1 hs (k := k) (d := d) pp (by rw [(pd s hs).1]; congr 1; omega) (by omega) (by omega) (by rw [hxe]; exact hx)) rfl rfl (Nat.le_of_ble_eq_true rfl) ⟨Nat.le_of_ble_eq_true rfl, Nat.le_of_ble_eq_true rfl⟩ ⟨by show _ ≤ 600086; omega, by show _ ≤ 7301442; omega⟩ ?_
      intro v110 s110 q110
      obtain ⟨rfl, z110⟩ := q110
      rw [z110]
      clear z110
      rw [hxe, (pp x hx).1]
      refine zw_iload dL_law_113 rfl ?_
      refine zw_icmpne (tgt := 131) dL_law_115 (by decide) (fun c115 => ?_) (fun c115 => ?_)
      · exact absurd rfl c115
      · refine zw_aload_n dL_law_118 rfl ?_
        refine zw_iload dL_law_119 rfl ?_
        refine zw_bipush (x := 10) dL_law_121 rfl ?_
        refine zw_callV (y' := zmX5_state) dL_law_123 zlL_89 zmX5_state_ok (xk_1 wl.1.1) (by decide) rfl (c_X5_state_10 wl.1.1 (wl.1.st hax).1 (wl.1.st hax).2.1 hax) rfl rfl (Nat.le_of_ble_eq_true rfl) ⟨Nat.le_of_ble_eq_true rfl, Nat.le_of_ble_eq_true rfl⟩ ⟨by show _ ≤ 600086; omega, by show _ ≤ 7301442; omega⟩ ?_
        intro v123 s123 q123
        obtain ⟨rfl, z123⟩ := q123
        rw [z123]
        clear z123
        rw [(pd (par x) hax).1, hda]
        refine zw_iload dL_law_126 rfl ?_
        refine zw_icmpeq (tgt := 133) dL_law_128 (by decide) (fun c128 => ?_) (fun c128 => ?_)
        · refine zw_aload_n dL_law_133 rfl ?_
          refine zw_iload dL_law_134 rfl ?_
          refine zw_aload_n dL_law_136 rfl ?_
          refine zw_iload dL_law_137 rfl ?_
          refine zw_iload dL_law_139 rfl ?_
          refine zw_iconst (x := 1) dL_law_141 rfl ?_
          refine zw_callV (y' := zmX5_way) dL_law_142 zlL_92 zmX5_way_ok (xk_1 wl.1.1) (by decide) rfl (c_X5_way_1 wl.1.1 (wl.1.st hs).1 (wl.1.st hs).2.1 hs (k := k) (d := d) pp (by rw [(pd s hs).1]; congr 1; omega) (by omega) (by omega) (by rw [hxe]; exact hx)) rfl rfl (Nat.le_of_ble_eq_true rfl) ⟨Nat.le_of_ble_eq_true rfl, Nat.le_of_ble_eq_true rfl⟩ ⟨by show _ ≤ 600086; omega, by show _ ≤ 7301442; omega⟩ ?_
          intro v142 s142 q142
          obtain ⟨rfl, z142⟩ := q142
          rw [z142]
          clear z142
          rw [hxe, g2]
          refine zw_iconst (x := 0) dL_law_145 rfl ?_
          refine zw_callV (y' := zmX5_step) dL_law_146 zlL_95 zmX5_step_ok (xk_1 wl.1.1) (by decide) rfl (c_X5_step wl.1.1 (wl.1.st hax).1 (wl.1.st hax).2.1 hax (j := pst x) (wl.1.st hax).2.2.1 (wl.1.st hax).2.2.2.1 hps (wl.1.st hax).2.2.2.2.1 (wl.1.st hax).2.2.2.2.2.1 (wl.1.st hax).2.2.2.2.2.2 (w := 0) ⟨by decide, by decide⟩) rfl rfl (Nat.le_of_ble_eq_true rfl) ⟨Nat.le_of_ble_eq_true rfl, Nat.le_of_ble_eq_true rfl⟩ ⟨by show _ ≤ 600086; omega, by show _ ≤ 7301442; omega⟩ ?_
          intro v146 s146 q146
          obtain ⟨rfl, z146⟩ := q146
          rw [z146]
          clear z146
          rw [t2]
          refine zw_istore dL_law_149 (by decide) rfl ?_
          refine zw_iinc dL_law_151 rfl (by decide) rfl ?_
          refine zw_goto (tgt := 97) dL_law_154 (by decide) ?_
          refine zw_loc (lc' := [(0, .ref 0), (1, .ref 1), (2, .ref 30), (3, .int (nI n)), (4, .ref fa), (5, .int (nI s)), (6, .int (nI (dep s))), (7, .int (nI x)), (8, .int (nI k + 1))]) (zsub_cons rfl (zsub_cons rfl (zsub_cons rfl (zsub_cons rfl (zsub_cons rfl (zsub_cons rfl (zsub_cons rfl (zsub_cons rfl (zsub_cons rfl zsub_nil))))))))) ?_
          rw [nI_1, ← hxe]
          refine zw_room (uc' := uc) (us' := us) (by omega) (by omega) ⟨hu1, hu2⟩ ?_
          exact ih (k + 1) (by omega)
        · exact absurd rfl c128
set_option maxHeartbeats 4000000 in
set_option maxRecDepth 100000 in
theorem lp_w2 {l : Launch} {σ : zS} {ls G : List Int32} {pk n fa : Nat} {fs dep par pst : Nat → Nat} {E : Nat → List Nat} (wl : wL σ ls G pk n fs dep par pst E fa) {s uc us : Nat} (hs : s < n) (hu1 : uc ≤ 600086) (hu2 : us ≤ 7301442) (K : zAW l zmL_lw { frames := 10, cells := 600086, slots := 7301442, locals := 360 } 233 [(0, .ref 0), (1, .ref 1), (2, .ref 30), (3, .int (nI n)), (4, .ref fa), (5, .int (nI s))] [] σ uc us (fun v _ => v = some (.int 1))) : ∀ (d k : Nat), k + d = (E s).length → zAW l zmL_lw { frames := 10, cells := 600086, slots := 7301442, locals := 360 } 190 [(0, .ref 0), (1, .ref 1), (2, .ref 30), (3, .int (nI n)), (4, .ref fa), (5, .int (nI s)), (6, .int (nI (dep s))), (8, .int (nI k))] [] σ uc us (fun v _ => v = some (.int 1)) := by
  have hn := wl.1.2.2.2.2.1.2.1
  obtain ⟨pp, pn, pd, px, p0⟩ := wl.1.par
  have hDs := (pd s hs).2
  have hE20 := wl.1.len hs
  intro d
  induction d with
  | zero =>
    intro k hd
    refine zw_iload dL_law_190 rfl ?_
    refine zw_aload_n dL_law_192 rfl ?_
    refine zw_iload dL_law_193 rfl ?_
    refine zw_bipush (x := 9) dL_law_195 rfl ?_
    refine zw_callV (y' := zmX5_state) dL_law_197 zlL_89 zmX5_state_ok (xk_1 wl.1.1) (by decide) rfl (c_X5_state_9 wl.1.1 (wl.1.st hs).1 (wl.1.st hs).2.1 hs (wl.1.st hs).2.2.1 (wl.1.st hs).2.2.2.1) rfl rfl (Nat.le_of_ble_eq_true rfl) ⟨Nat.le_of_ble_eq_true rfl, Nat.le_of_ble_eq_true rfl⟩ ⟨by show _ ≤ 600086; omega, by show _ ≤ 7301442; omega⟩ ?_
    intro v197 s197 q197
    obtain ⟨rfl, z197⟩ := q197
    rw [z197]
    clear z197
    refine zw_icmpge (tgt := 233) dL_law_200 (by decide) (fun c200 => ?_) (fun c200 => ?_)
    · refine zw_loc (lc' := [(0, .ref 0), (1, .ref 1), (2, .ref 30), (3, .int (nI n)), (4, .ref fa), (5, .int (nI s))]) (zsub_cons rfl (zsub_cons rfl (zsub_cons rfl (zsub_cons rfl (zsub_cons rfl (zsub_cons rfl zsub_nil)))))) ?_
      refine zw_room (uc' := uc) (us' := us) (by omega) (by omega) ⟨hu1, hu2⟩ ?_
      exact K
    · exact absurd (nI_le (show (E s).length ≤ k by omega) (by omega)) c200
  | succ d ih =>
    intro k hd
    have hk : k < (E s).length := by omega
    have hgt : (E s)[k]? = some (E s)[k] := List.getElem?_eq_getElem hk
    obtain ⟨t1, t2, -, t4⟩ := wl.1.tg hs hgt
    generalize (E s)[k] = t at hgt t1 t2 t4
    refine zw_iload dL_law_190 rfl ?_
    refine zw_aload_n dL_law_192 rfl ?_
    refine zw_iload dL_law_193 rfl ?_
    refine zw_bipush (x := 9) dL_law_195 rfl ?_
    refine zw_callV (y' := zmX5_state) dL_law_197 zlL_89 zmX5_state_ok (xk_1 wl.1.1) (by decide) rfl (c_X5_state_9 wl.1.1 (wl.1.st hs).1 (wl.1.st hs).2.1 hs (wl.1.st hs).2.2.1 (wl.1.st hs).2.2.2.1) rfl rfl (Nat.le_of_ble_eq_true rfl) ⟨Nat.le_of_ble_eq_true rfl, Nat.le_of_ble_eq_true rfl⟩ ⟨by show _ ≤ 600086; omega, by show _ ≤ 7301442; omega⟩ ?_
    intro v197 s197 q197
    obtain ⟨rfl, z197⟩ := q197
    rw [z197]
    clear z197
    refine zw_icmpge (tgt := 233) dL_law_200 (by decide) (fun c200 => ?_) (fun c200 => ?_)
    · exact absurd c200 (nI_ge hk (by omega))
    · refine zw_aload_n dL_law_203 rfl ?_
      refine zw_aload_n dL_law_204 rfl ?_
      refine zw_iload dL_law_205 rfl ?_
      refine zw_iload dL_law_207 rfl ?_
      refine zw_iconst (x := 0) dL_law_209 rfl ?_
      refine zw_callV (y' := zmX5_step) dL_law_210 zlL_95 zmX5_step_ok (xk_1 wl.1.1) (by decide) rfl (c_X5_step wl.1.1 (wl.1.st hs).1 (wl.1.st hs).2.1 hs (j := k) (wl.1.st hs).2.2.1 (wl.1.st hs).2.2.2.1 hk (wl.1.st hs).2.2.2.2.1 (wl.1.st hs).2.2.2.2.2.1 (wl.1.st hs).2.2.2.2.2.2 (w := 0) ⟨by decide, by decide⟩) rfl rfl (Nat.le_of_ble_eq_true rfl) ⟨Nat.le_of_ble_eq_true rfl, Nat.le_of_ble_eq_true rfl⟩ ⟨by show _ ≤ 600086; omega, by show _ ≤ 7301442; omega⟩ ?_
      intro v210 s210 q210
      obtain ⟨rfl, z210⟩ := q210
      rw [z210]
      clear z210
      rw [t2]
      refine zw_bipush (x := 10) dL_law_213 rfl ?_
      refine zw_callV (y' := zmX5_state) dL_law_215 zlL_89 zmX5_state_ok (xk_1 wl.1.1) (by decide) rfl (c_X5_state_10 wl.1.1 (wl.1.st t1).1 (wl.1.st t1).2.1 t1) rfl rfl (Nat.le_of_ble_eq_true rfl) ⟨Nat.le_of_ble_eq_true rfl, Nat.le_of_ble_eq_true rfl⟩ ⟨by show _ ≤ 600086; omega, by show _ ≤ 7301442; omega⟩ ?_
      intro v215 s215 q215
      obtain ⟨rfl, z215⟩ := q215
      rw [z215]
      clear z215
      rw [(pd t t1).1]
      refine zw_iload dL_law_218 rfl ?_
      refine zw_iconst (x := 1) dL_law_220 rfl ?_
      refine zw_iadd dL_law_221 ?_
      rw [nI_1]
      refine zw_icmple (tgt := 227) dL_law_222 (by decide) (fun c222 => ?_) (fun c222 => ?_)
      · refine zw_iinc dL_law_227 rfl (by decide) rfl ?_
        refine zw_goto (tgt := 190) dL_law_230 (by decide) ?_
        refine zw_loc (lc' := [(0, .ref 0), (1, .ref 1), (2, .ref 30), (3, .int (nI n)), (4, .ref fa), (5, .int (nI s)), (6, .int (nI (dep s))), (8, .int (nI k + 1))]) (zsub_cons rfl (zsub_cons rfl (zsub_cons rfl (zsub_cons rfl (zsub_cons rfl (zsub_cons rfl (zsub_cons rfl (zsub_cons rfl zsub_nil)))))))) ?_
        rw [nI_1]
        refine zw_room (uc' := uc) (us' := us) (by omega) (by omega) ⟨hu1, hu2⟩ ?_
        exact ih (k + 1) (by omega)
      · exact absurd (nI_le t4 (by omega)) c222
set_option maxHeartbeats 4000000 in
set_option maxRecDepth 100000 in
theorem lp_w {l : Launch} {σ : zS} {ls G : List Int32} {pk n fa : Nat} {fs dep par pst : Nat → Nat} {E : Nat → List Nat} (wl : wL σ ls G pk n fs dep par pst E fa) {uc us : Nat} (hu1 : uc ≤ 600086) (hu2 : us ≤ 7301442) (K : zAW l zmL_lw { frames := 10, cells := 600086, slots := 7301442, locals := 360 } 247 [(0, .ref 0), (1, .ref 1), (2, .ref 30), (3, .int (nI n)), (4, .ref fa)] [] σ uc us (fun v _ => v = some (.int 1))) : ∀ (d s : Nat), n ≤ s + d → s < 1000 → zAW l zmL_lw { frames := 10, cells := 600086, slots := 7301442, locals := 360 } 75 [(0, .ref 0), (1, .ref 1), (2, .ref 30), (3, .int (nI n)), (4, .ref fa), (5, .int (nI s))] [] σ uc us (fun v _ => v = some (.int 1)) := by
  have hn := wl.1.2.2.2.2.1.2.1
  intro d
  induction d with
  | zero =>
    intro s hd hs9
    refine zw_iload dL_law_75 rfl ?_
    refine zw_iload_n dL_law_77 rfl ?_
    refine zw_icmpge (tgt := 247) dL_law_78 (by decide) (fun c78 => ?_) (fun c78 => ?_)
    · refine zw_loc (lc' := [(0, .ref 0), (1, .ref 1), (2, .ref 30), (3, .int (nI n)), (4, .ref fa)]) (zsub_cons rfl (zsub_cons rfl (zsub_cons rfl (zsub_cons rfl (zsub_cons rfl zsub_nil))))) ?_
      exact K
    · exact absurd (nI_le (show n ≤ s by omega) (by omega)) c78
  | succ d ih =>
    intro s hd hs9
    by_cases hs : s < n
    rotate_left
    · refine zw_iload dL_law_75 rfl ?_
      refine zw_iload_n dL_law_77 rfl ?_
      refine zw_icmpge (tgt := 247) dL_law_78 (by decide) (fun c78 => ?_) (fun c78 => ?_)
      · refine zw_loc (lc' := [(0, .ref 0), (1, .ref 1), (2, .ref 30), (3, .int (nI n)), (4, .ref fa)]) (zsub_cons rfl (zsub_cons rfl (zsub_cons rfl (zsub_cons rfl (zsub_cons rfl zsub_nil))))) ?_
        exact K
      · exact absurd (nI_le (show n ≤ s by omega) (by omega)) c78
    obtain ⟨pp, pn, pd, px, p0⟩ := wl.1.par
    have hDs := (pd s hs).2
    have K157 : zAW l zmL_lw { frames := 10, cells := 600086, slots := 7301442, locals := 360 } 157 [(0, .ref 0), (1, .ref 1), (2, .ref 30), (3, .int (nI n)), (4, .ref fa), (5, .int (nI s)), (6, .int (nI (dep s))), (7, .int (nI s)), (8, .int (nI (dep s)))] [] σ uc us (fun v _ => v = some (.int 1)) := by
      refine zw_iload dL_law_157 rfl ?_
      refine zw_iload dL_law_159 rfl ?_
      refine zw_icmpne (tgt := 185) dL_law_161 (by decide) (fun c161 => ?_) (fun c161 => ?_)
      · exact absurd rfl c161
      · refine zw_iload dL_law_164 rfl ?_
        refine zw_sipush (x := 400) dL_law_166 rfl ?_
        refine zw_icmpge (tgt := 187) dL_law_169 (by decide) (fun c169 => ?_) (fun c169 => ?_)
        · exact absurd c169 (nI_ge (b := 400) (show dep s < 400 by omega) (by decide))
        · refine zw_aload_n dL_law_172 rfl ?_
          refine zw_iload dL_law_173 rfl ?_
          refine zw_iload dL_law_175 rfl ?_
          refine zw_iconst (x := 0) dL_law_177 rfl ?_
          refine zw_callV (y' := zmX5_way) dL_law_178 zlL_92 zmX5_way_ok (xk_1 wl.1.1) (by decide) rfl (c_X5_way_no wl.1.1 (wl.1.st hs).1 (wl.1.st hs).2.1 hs (k := dep s) (D := dep s) (pd s hs).1 (by omega) (by omega) (Nat.le_refl _) (w := 0) ⟨by decide, by decide⟩) rfl rfl (Nat.le_of_ble_eq_true rfl) ⟨Nat.le_of_ble_eq_true rfl, Nat.le_of_ble_eq_true rfl⟩ ⟨by show _ ≤ 600086; omega, by show _ ≤ 7301442; omega⟩ ?_
          intro v178 s178 q178
          obtain ⟨rfl, z178⟩ := q178
          rw [z178]
          clear z178
          refine zw_iconst (x := -1) dL_law_181 rfl ?_
          refine zw_icmpeq (tgt := 187) dL_law_182 (by decide) (fun c182 => ?_) (fun c182 => ?_)
          · refine zw_iconst (x := 0) dL_law_187 rfl ?_
            refine zw_istore dL_law_188 (by decide) rfl ?_
            refine zw_loc (lc' := [(0, .ref 0), (1, .ref 1), (2, .ref 30), (3, .int (nI n)), (4, .ref fa), (5, .int (nI s)), (6, .int (nI (dep s))), (8, .int (nI 0))]) (zsub_cons rfl (zsub_cons rfl (zsub_cons rfl (zsub_cons rfl (zsub_cons rfl (zsub_cons rfl (zsub_cons rfl (zsub_cons rfl zsub_nil)))))))) ?_
            refine zw_room (uc' := uc) (us' := us) (by omega) (by omega) ⟨hu1, hu2⟩ ?_
            refine lp_w2 wl hs hu1 hu2 ?_ (E s).length 0 (Nat.zero_add _)
            refine zw_iload dL_law_233 rfl ?_
            refine zw_iconst (x := 1) dL_law_235 rfl ?_
            refine zw_iload_n dL_law_236 rfl ?_
            refine zw_bipush (x := 20) dL_law_237 rfl ?_
            refine zw_idiv dL_law_239 (by decide) ?_
            rw [show nI n / (20 : Int32) = nI (n / 20) from pk_div (d := 20) (by omega) (by decide) (by decide)]
            refine zw_iadd dL_law_240 ?_
            rw [show (1 : Int32) + nI (n / 20) = nI (1 + n / 20) from nI_add 1 _]
            refine zw_iadd dL_law_241 ?_
            rw [nI_add]
            refine zw_istore dL_law_242 (by decide) rfl ?_
            refine zw_goto (tgt := 75) dL_law_244 (by decide) ?_
            refine zw_loc (lc' := [(0, .ref 0), (1, .ref 1), (2, .ref 30), (3, .int (nI n)), (4, .ref fa), (5, .int (nI (s + (1 + n / 20))))]) (zsub_cons rfl (zsub_cons rfl (zsub_cons rfl (zsub_cons rfl (zsub_cons rfl (zsub_cons rfl zsub_nil)))))) ?_
            exact ih (s + (1 + n / 20)) (by omega) (by omega)
          · exact absurd rfl c182
    refine zw_iload dL_law_75 rfl ?_
    refine zw_iload_n dL_law_77 rfl ?_
    refine zw_icmpge (tgt := 247) dL_law_78 (by decide) (fun c78 => ?_) (fun c78 => ?_)
    · exact absurd c78 (nI_ge hs (by omega))
    · refine zw_aload_n dL_law_81 rfl ?_
      refine zw_iload dL_law_82 rfl ?_
      refine zw_bipush (x := 10) dL_law_84 rfl ?_
      refine zw_callV (y' := zmX5_state) dL_law_86 zlL_89 zmX5_state_ok (xk_1 wl.1.1) (by decide) rfl (c_X5_state_10 wl.1.1 (wl.1.st hs).1 (wl.1.st hs).2.1 hs) rfl rfl (Nat.le_of_ble_eq_true rfl) ⟨Nat.le_of_ble_eq_true rfl, Nat.le_of_ble_eq_true rfl⟩ ⟨by show _ ≤ 600086; omega, by show _ ≤ 7301442; omega⟩ ?_
      intro v86 s86 q86
      obtain ⟨rfl, z86⟩ := q86
      rw [z86]
      clear z86
      rw [(pd s hs).1]
      refine zw_istore dL_law_89 (by decide) rfl ?_
      refine zw_iconst (x := 0) dL_law_91 rfl ?_
      refine zw_istore dL_law_92 (by decide) rfl ?_
      refine zw_iconst (x := 0) dL_law_94 rfl ?_
      refine zw_istore dL_law_95 (by decide) rfl ?_
      refine zw_loc (lc' := [(0, .ref 0), (1, .ref 1), (2, .ref 30), (3, .int (nI n)), (4, .ref fa), (5, .int (nI s)), (6, .int (nI (dep s))), (7, .int (nI 0)), (8, .int (nI 0))]) (zsub_cons rfl (zsub_cons rfl (zsub_cons rfl (zsub_cons rfl (zsub_cons rfl (zsub_cons rfl (zsub_cons rfl (zsub_cons rfl (zsub_cons rfl zsub_nil))))))))) ?_
      refine zw_room (uc' := uc) (us' := us) (by omega) (by omega) ⟨hu1, hu2⟩ ?_
      have e0 : xUp par (dep s) s = 0 := p0 _ (xUp_lt pn _ s hs) (by have := xUp_dep pn (fun t ht h0 => (px t ht h0).1) (dep s) s hs (Nat.le_refl _); omega)
      have kw := lp_w1 (l := l) wl hs hu1 hu2 K157 (dep s) 0 (Nat.zero_add _)
      rw [e0] at kw
      exact kw
