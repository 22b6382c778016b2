/-! the law's facts: the shape of what is made, and the loop over the states -/
def fB (σ : zS) (fa n : Nat) : Prop := fa + 8 < zn σ ∧ zK σ fa = 106 ∧ zL σ fa = 8 ∧ ∀ j, j < 8 → zR σ fa j = some (fa + 1 + j) ∧ zK σ (fa + 1 + j) = 101 ∧ zL σ (fa + 1 + j) = n
def fT (σ : zS) (fa n k : Nat) : Prop := ∀ j, j < k → ∀ s, s < n → zI σ (fa + 1 + j) s = zb (xHold σ j (zI σ 9 s))
def fS (σ : zS) (k so a b : Nat) : Prop := zI σ 18 k = nI so ∧ zI σ 19 k = nI a ∧ zI σ 20 k = nI b
def fP (σ : zS) (fa k st : Nat) : Prop := ∀ s, s < st → zI σ (fa + 1 + k) s = zb (xHold σ k (zI σ 9 s))
theorem fT.I {σ : zS} {fa n k a i : Nat} {x : Int32} (h : fT σ fa n k) (h1 : 30 < a) (h2 : ∀ j, j < k → fa + 1 + j ≠ a) : fT (zsI σ a i x) fa n k := by
  intro j hj s hs
  have e : ∀ b, b < 30 → zI (zsI σ a i x) b = zI σ b := fun b hb => funext fun j => by rw [zI_zsI, if_neg (by omega)]
  rw [xHold_cg (e 18 (by decide)) (e 19 (by decide)) (e 20 (by decide)), e 9 (by decide), zI_zsI, if_neg (fun q => h2 j hj q.1)]
  exact h j hj s hs
theorem fP.I {σ : zS} {fa k st : Nat} {v : Int32} (h : fP σ fa k st) (h1 : 30 ≤ fa) (hv : v = zb (xHold σ k (zI σ 9 st))) : fP (zsI σ (fa + 1 + k) st v) fa k (st + 1) := by
  intro s hs
  have e : ∀ b, b < 30 → zI (zsI σ (fa + 1 + k) st v) b = zI σ b := fun b hb => funext fun j => by rw [zI_zsI, if_neg (by omega)]
  rw [xHold_cg (e 18 (by decide)) (e 19 (by decide)) (e 20 (by decide)), e 9 (by decide), zI_zsI]
  by_cases c : s = st
  · rw [if_pos ⟨rfl, c⟩, c]; exact hv
  · rw [if_neg (fun q => c q.2)]
    exact h s (by omega)
theorem fS.I {σ : zS} {k so a b d i : Nat} {x : Int32} (h : fS σ k so a b) (h1 : 30 < d) : fS (zsI σ d i x) k so a b := by
  unfold fS
  rw [zI_zsI, if_neg (by omega), zI_zsI, if_neg (by omega), zI_zsI, if_neg (by omega)]
  exact h
set_option maxHeartbeats 4000000 in
set_option maxRecDepth 100000 in
theorem lp_fe {l : Launch} {σ0 : zS} {ls G : List Int32} {rows : List (List Int32)} {SS : Nat} {Q : Option Value → zS → Prop} (hw0 : zWF σ0) (cr0 : cR σ0 ls G) (wh0 : wH σ0 ls G rows) (lo : lsOk ls) (h1 : 1 ≤ ls.length) (h3 : ls.length ≤ 3) (h2 : G.length ≤ 2) (hn : rows.length ≤ 400) (hrok : ∀ r, r ∈ rows → rOk ls.length G.length r) (hkey : ∀ (s : Nat) (r : List Int32), rows[s]? = some r → zI σ0 9 s = enc ls.length G.length r) {k so a b st : Nat} {r : Nat} {x v : Int32} (hk : k < 8) (hst : st < rows.length) (σ : zS) (uc us : Nat) (hu : zU σ0 σ) (fz : xFz σ = nI (k + 1)) (fb : fB σ (zn σ0) rows.length) (ft : fT σ (zn σ0) rows.length k) (fs : fS σ k so a b) (fp : fP σ (zn σ0) k st) (hv : v = zb (xHold σ k (zI σ 9 st)))
    (KI : ∀ σ : zS, zU σ0 σ → xFz σ = nI (k + 1) → fB σ (zn σ0) rows.length → fT σ (zn σ0) rows.length k → fS σ k so a b → fP σ (zn σ0) k (st + 1) → zAW l zmL_facts { frames := 4, cells := 9, slots := SS, locals := 89 } 239 [(0, .ref 1), (1, .ref 30), (2, .ref 0), (3, .int 9), (4, .int (nI rows.length)), (5, .ref (zn σ0)), (6, .int (nI k)), (7, .int (x)), (8, .int (nI so)), (9, .int (nI a)), (10, .int (nI b)), (11, .int (nI (st + 1)))] [] σ uc us Q) : zAW l zmL_facts { frames := 4, cells := 9, slots := SS, locals := 89 } 433 ((12, .ref r) :: [(0, .ref 1), (1, .ref 30), (2, .ref 0), (3, .int 9), (4, .int (nI rows.length)), (5, .ref (zn σ0)), (6, .int (nI k)), (7, .int (x)), (8, .int (nI so)), (9, .int (nI a)), (10, .int (nI b)), (11, .int (nI st))]) [.int v, .int (nI st), .ref (zn σ0 + 1 + k)] σ uc us Q := by
  obtain ⟨f1, f2, f3⟩ := fb.2.2.2 k hk
  have h30 := wh0.2.1
  rw [hv]
  refine zw_bastore dL_facts_433 f2 (znz _) (zin_of f3 (vp_in_nI hst (by omega))) ?_
  rw [nI_clamp (show st < 2 ^ 31 by omega)]
  refine zw_iinc dL_facts_434 rfl (by decide) rfl ?_
  refine zw_goto (tgt := 239) dL_facts_437 (by decide) ?_
  refine zw_loc (lc' := [(0, .ref 1), (1, .ref 30), (2, .ref 0), (3, .int 9), (4, .int (nI rows.length)), (5, .ref (zn σ0)), (6, .int (nI k)), (7, .int (x)), (8, .int (nI so)), (9, .int (nI a)), (10, .int (nI b)), (11, .int (nI st + 1))]) (zsub_cons rfl (zsub_cons rfl (zsub_cons rfl (zsub_cons rfl (zsub_cons rfl (zsub_cons rfl (zsub_cons rfl (zsub_cons rfl (zsub_cons rfl (zsub_cons rfl (zsub_cons rfl (zsub_cons rfl zsub_nil)))))))))))) ?_
  rw [nI_1]
  exact KI _ (hu.I (Or.inl (by omega))) fz fb (ft.I (by omega) (fun j hj => by omega)) (fs.I (by omega)) (fp.I (by omega) rfl)
set_option maxHeartbeats 4000000 in
set_option maxRecDepth 100000 in
theorem lp_fi_0 {l : Launch} {σ0 : zS} {ls G : List Int32} {rows : List (List Int32)} {SS : Nat} {Q : Option Value → zS → Prop} (hw0 : zWF σ0) (cr0 : cR σ0 ls G) (wh0 : wH σ0 ls G rows) (lo : lsOk ls) (h1 : 1 ≤ ls.length) (h3 : ls.length ≤ 3) (h2 : G.length ≤ 2) (hn : rows.length ≤ 400) (hrok : ∀ r, r ∈ rows → rOk ls.length G.length r) (hkey : ∀ (s : Nat) (r : List Int32), rows[s]? = some r → zI σ0 9 s = enc ls.length G.length r) {k a b : Nat} {x : Int32} (hk : k < 8) (hval : a < ls.length) (uc us : Nat) (KN : ∀ σ : zS, zU σ0 σ → xFz σ = nI (k + 1) → fB σ (zn σ0) rows.length → fT σ (zn σ0) rows.length (k + 1) → zAW l zmL_facts { frames := 4, cells := 9, slots := SS, locals := 89 } 20 [(0, .ref 1), (1, .ref 30), (2, .ref 0), (3, .int 9), (4, .int (nI rows.length)), (5, .ref (zn σ0)), (6, .int (nI (k + 1)))] [] σ uc us Q) :
    ∀ (d st : Nat) (σ : zS), st + d = rows.length → zU σ0 σ → xFz σ = nI (k + 1) → fB σ (zn σ0) rows.length → fT σ (zn σ0) rows.length k → fS σ k 0 a b → fP σ (zn σ0) k st → zAW l zmL_facts { frames := 4, cells := 9, slots := SS, locals := 89 } 239 [(0, .ref 1), (1, .ref 30), (2, .ref 0), (3, .int 9), (4, .int (nI rows.length)), (5, .ref (zn σ0)), (6, .int (nI k)), (7, .int (x)), (8, .int (nI 0)), (9, .int (nI a)), (10, .int (nI b)), (11, .int (nI st))] [] σ uc us Q := by
  intro d
  induction d with
  | zero =>
    intro st σ hd hu fz fb ft fs fp
    refine zw_iload dL_facts_239 rfl ?_
    refine zw_iload dL_facts_241 rfl ?_
    refine zw_icmpge (tgt := 440) dL_facts_243 (by decide) (fun c243 => ?_) (fun c243 => ?_)
    · refine zw_iinc dL_facts_440 rfl (by decide) rfl ?_
      refine zw_goto (tgt := 20) dL_facts_443 (by decide) ?_
      refine zw_loc (lc' := [(0, .ref 1), (1, .ref 30), (2, .ref 0), (3, .int 9), (4, .int (nI rows.length)), (5, .ref (zn σ0)), (6, .int (nI k + 1))]) (zsub_cons rfl (zsub_cons rfl (zsub_cons rfl (zsub_cons rfl (zsub_cons rfl (zsub_cons rfl (zsub_cons rfl zsub_nil))))))) ?_
      rw [nI_1]
      exact KN σ hu fz fb (fun j hj s hs => by
        by_cases c : j = k
        · rw [c]; exact fp s (by omega)
        · exact ft j (by omega) s hs)
    · exact absurd (nI_le (show rows.length ≤ st by omega) (by omega)) c243
  | succ d ih =>
    intro st σ hd hu fz fb ft fs fp
    have cr := cr0.u hw0 hu
    have hr5 : ∀ r, r ∈ rows → r.length ≤ 5 := fun r hr => by rw [(hrok r hr).1]; omega
    have wh := wh0.u cr0.1 hr5 hu
    have h30 := wh0.2.1
    have hst : st < rows.length := by omega
    have hrow : rows[st]? = some rows[st] := List.getElem?_eq_getElem hst
    have hro := hrok rows[st] (List.getElem_mem hst)
    have hrl := hro.1
    have ekey : zI σ 9 st = enc ls.length G.length rows[st] := by
      have f29 := zWF_lt hw0 (xk_29 cr0.1) (by decide)
      rw [(hu.2 9 (by omega)).2.2.2.1 (by omega)]
      exact hkey st _ hrow
    obtain ⟨f1, f2, f3⟩ := fb.2.2.2 k hk
    have hh : xHold σ k (zI σ 9 st) = decide (nI (eN rows[st] a) = nI b) := by
      rw [hT_0 (by omega) fs.1 fs.2.1 fs.2.2, ekey, enc_loc hro h3 hval]
    have hea := hro.n (show a < ls.length + G.length by omega)
    obtain ⟨wk, w30, ⟨la, gl, l30, il⟩, ⟨ga, gg, g30, ig⟩, sa, gsa, sa30, isa⟩ := wh
    refine zw_iload dL_facts_239 rfl ?_
    refine zw_iload dL_facts_241 rfl ?_
    refine zw_icmpge (tgt := 440) dL_facts_243 (by decide) (fun c243 => ?_) (fun c243 => ?_)
    · exact absurd c243 (nI_ge hst (by omega))
    · refine zw_aload_n dL_facts_246 rfl ?_
      refine zw_getR dL_facts_247 zfL_63 rfl wk (by decide) gsa ?_
      refine zw_iload dL_facts_250 rfl ?_
      refine zw_aaload (t := 4) dL_facts_252 isa.1 rfl (by decide) (zin_of isa.2.2.2.1 (vp_in_nI hst (by omega))) ?_
      obtain ⟨rr, er, ir⟩ := isa.2.2.2.2 st _ hrow
      rw [nI_clamp (show st < 2 ^ 31 by omega), er]
      refine zw_astore dL_facts_253 (by decide) rfl ?_
      refine zw_aload dL_facts_255 rfl ?_
      refine zw_iload dL_facts_257 rfl ?_
      refine zw_aaload (t := 6) dL_facts_259 fb.2.1 rfl (by decide) (zin_of fb.2.2.1 (vp_in_nI hk (by decide))) ?_
      rw [nI_clamp (show k < 2 ^ 31 by omega), f1]
      refine zw_iload dL_facts_260 rfl ?_
      refine zw_iload dL_facts_262 rfl ?_
      refine zw_ifne (tgt := 285) dL_facts_264 (by decide) (fun c264 => ?_) (fun c264 => ?_)
      · exact absurd c264 (by decide)
      · refine zw_aload dL_facts_267 rfl ?_
        refine zw_iload dL_facts_269 rfl ?_
        refine zw_iaload dL_facts_271 ir.1 (zin_of ir.2.2.2.1 (vp_in_nI (by omega) (by omega))) ?_
        rw [nI_clamp (show a < 2 ^ 31 by omega), ir.2.2.2.2 a _ hea.1]
        refine zw_iload dL_facts_272 rfl ?_
        refine zw_icmpne (tgt := 281) dL_facts_274 (by decide) (fun c274 => ?_) (fun c274 => ?_)
        · refine zw_iconst (x := 0) dL_facts_281 rfl ?_
          refine zw_goto (tgt := 433) dL_facts_282 (by decide) ?_
          exact zw_loc (lc' := (12, .ref rr) :: [(0, .ref 1), (1, .ref 30), (2, .ref 0), (3, .int 9), (4, .int (nI rows.length)), (5, .ref (zn σ0)), (6, .int (nI k)), (7, .int (x)), (8, .int (nI 0)), (9, .int (nI a)), (10, .int (nI b)), (11, .int (nI st))]) (zsub_cons rfl (zsub_cons rfl (zsub_cons rfl (zsub_cons rfl (zsub_cons rfl (zsub_cons rfl (zsub_cons rfl (zsub_cons rfl (zsub_cons rfl (zsub_cons rfl (zsub_cons rfl (zsub_cons rfl (zsub_cons rfl zsub_nil))))))))))))) (lp_fe hw0 cr0 wh0 lo h1 h3 h2 hn hrok hkey hk hst σ uc us hu fz fb ft fs fp (show (0 : Int32) = zb (xHold σ k (zI σ 9 st)) by rw [hh, decide_eq_false c274]; rfl) (fun σ2 q1 q2 q3 q4 q5 q6 => ih (st + 1) σ2 (by omega) q1 q2 q3 q4 q5 q6))
        · refine zw_iconst (x := 1) dL_facts_277 rfl ?_
          refine zw_goto (tgt := 433) dL_facts_278 (by decide) ?_
          exact zw_loc (lc' := (12, .ref rr) :: [(0, .ref 1), (1, .ref 30), (2, .ref 0), (3, .int 9), (4, .int (nI rows.length)), (5, .ref (zn σ0)), (6, .int (nI k)), (7, .int (x)), (8, .int (nI 0)), (9, .int (nI a)), (10, .int (nI b)), (11, .int (nI st))]) (zsub_cons rfl (zsub_cons rfl (zsub_cons rfl (zsub_cons rfl (zsub_cons rfl (zsub_cons rfl (zsub_cons rfl (zsub_cons rfl (zsub_cons rfl (zsub_cons rfl (zsub_cons rfl (zsub_cons rfl (zsub_cons rfl zsub_nil))))))))))))) (lp_fe hw0 cr0 wh0 lo h1 h3 h2 hn hrok hkey hk hst σ uc us hu fz fb ft fs fp (show (1 : Int32) = zb (xHold σ k (zI σ 9 st)) by rw [hh, decide_eq_true c274]; rfl) (fun σ2 q1 q2 q3 q4 q5 q6 => ih (st + 1) σ2 (by omega) q1 q2 q3 q4 q5 q6))
set_option maxHeartbeats 4000000 in
set_option maxRecDepth 100000 in
theorem lp_fi_1 {l : Launch} {σ0 : zS} {ls G : List Int32} {rows : List (List Int32)} {SS : Nat} {Q : Option Value → zS → Prop} (hw0 : zWF σ0) (cr0 : cR σ0 ls G) (wh0 : wH σ0 ls G rows) (lo : lsOk ls) (h1 : 1 ≤ ls.length) (h3 : ls.length ≤ 3) (h2 : G.length ≤ 2) (hn : rows.length ≤ 400) (hrok : ∀ r, r ∈ rows → rOk ls.length G.length r) (hkey : ∀ (s : Nat) (r : List Int32), rows[s]? = some r → zI σ0 9 s = enc ls.length G.length r) {k a b : Nat} {x : Int32} (hk : k < 8) (hval : a < G.length) (uc us : Nat) (KN : ∀ σ : zS, zU σ0 σ → xFz σ = nI (k + 1) → fB σ (zn σ0) rows.length → fT σ (zn σ0) rows.length (k + 1) → zAW l zmL_facts { frames := 4, cells := 9, slots := SS, locals := 89 } 20 [(0, .ref 1), (1, .ref 30), (2, .ref 0), (3, .int 9), (4, .int (nI rows.length)), (5, .ref (zn σ0)), (6, .int (nI (k + 1)))] [] σ uc us Q) :
    ∀ (d st : Nat) (σ : zS), st + d = rows.length → zU σ0 σ → xFz σ = nI (k + 1) → fB σ (zn σ0) rows.length → fT σ (zn σ0) rows.length k → fS σ k 1 a b → fP σ (zn σ0) k st → zAW l zmL_facts { frames := 4, cells := 9, slots := SS, locals := 89 } 239 [(0, .ref 1), (1, .ref 30), (2, .ref 0), (3, .int 9), (4, .int (nI rows.length)), (5, .ref (zn σ0)), (6, .int (nI k)), (7, .int (x)), (8, .int (nI 1)), (9, .int (nI a)), (10, .int (nI b)), (11, .int (nI st))] [] σ uc us Q := by
  intro d
  induction d with
  | zero =>
    intro st σ hd hu fz fb ft fs fp
    refine zw_iload dL_facts_239 rfl ?_
    refine zw_iload dL_facts_241 rfl ?_
    refine zw_icmpge (tgt := 440) dL_facts_243 (by decide) (fun c243 => ?_) (fun c243 => ?_)
    · refine zw_iinc dL_facts_440 rfl (by decide) rfl ?_
      refine zw_goto (tgt := 20) dL_facts_443 (by decide) ?_
      refine zw_loc (lc' := [(0, .ref 1), (1, .ref 30), (2, .ref 0), (3, .int 9), (4, .int (nI rows.length)), (5, .ref (zn σ0)), (6, .int (nI k + 1))]) (zsub_cons rfl (zsub_cons rfl (zsub_cons rfl (zsub_cons rfl (zsub_cons rfl (zsub_cons rfl (zsub_cons rfl zsub_nil))))))) ?_
      rw [nI_1]
      exact KN σ hu fz fb (fun j hj s hs => by
        by_cases c : j = k
        · rw [c]; exact fp s (by omega)
        · exact ft j (by omega) s hs)
    · exact absurd (nI_le (show rows.length ≤ st by omega) (by omega)) c243
  | succ d ih =>
    intro st σ hd hu fz fb ft fs fp
    have cr := cr0.u hw0 hu
    have hr5 : ∀ r, r ∈ rows → r.length ≤ 5 := fun r hr => by rw [(hrok r hr).1]; omega
    have wh := wh0.u cr0.1 hr5 hu
    have h30 := wh0.2.1
    have hst : st < rows.length := by omega
    have hrow : rows[st]? = some rows[st] := List.getElem?_eq_getElem hst
    have hro := hrok rows[st] (List.getElem_mem hst)
    have hrl := hro.1
    have ekey : zI σ 9 st = enc ls.length G.length rows[st] := by
      have f29 := zWF_lt hw0 (xk_29 cr0.1) (by decide)
      rw [(hu.2 9 (by omega)).2.2.2.1 (by omega)]
      exact hkey st _ hrow
    obtain ⟨f1, f2, f3⟩ := fb.2.2.2 k hk
    have hh : xHold σ k (zI σ 9 st) = decide (nI (eN rows[st] (ls.length + a)) = nI b) := by
      rw [hT_1 (by omega) fs.1 fs.2.1 fs.2.2, ekey, enc_val hro h2 hval]
    have hea := hro.n (show ls.length + a < ls.length + G.length by omega)
    obtain ⟨wk, w30, ⟨la, gl, l30, il⟩, ⟨ga, gg, g30, ig⟩, sa, gsa, sa30, isa⟩ := wh
    refine zw_iload dL_facts_239 rfl ?_
    refine zw_iload dL_facts_241 rfl ?_
    refine zw_icmpge (tgt := 440) dL_facts_243 (by decide) (fun c243 => ?_) (fun c243 => ?_)
    · exact absurd c243 (nI_ge hst (by omega))
    · refine zw_aload_n dL_facts_246 rfl ?_
      refine zw_getR dL_facts_247 zfL_63 rfl wk (by decide) gsa ?_
      refine zw_iload dL_facts_250 rfl ?_
      refine zw_aaload (t := 4) dL_facts_252 isa.1 rfl (by decide) (zin_of isa.2.2.2.1 (vp_in_nI hst (by omega))) ?_
      obtain ⟨rr, er, ir⟩ := isa.2.2.2.2 st _ hrow
      rw [nI_clamp (show st < 2 ^ 31 by omega), er]
      refine zw_astore dL_facts_253 (by decide) rfl ?_
      refine zw_aload dL_facts_255 rfl ?_
      refine zw_iload dL_facts_257 rfl ?_
      refine zw_aaload (t := 6) dL_facts_259 fb.2.1 rfl (by decide) (zin_of fb.2.2.1 (vp_in_nI hk (by decide))) ?_
      rw [nI_clamp (show k < 2 ^ 31 by omega), f1]
      refine zw_iload dL_facts_260 rfl ?_
      refine zw_iload dL_facts_262 rfl ?_
      refine zw_ifne (tgt := 285) dL_facts_264 (by decide) (fun c264 => ?_) (fun c264 => ?_)
      · refine zw_iload dL_facts_285 rfl ?_
        refine zw_iconst (x := 1) dL_facts_287 rfl ?_
        refine zw_icmpne (tgt := 315) dL_facts_288 (by decide) (fun c288 => ?_) (fun c288 => ?_)
        · exact absurd c288 (by decide)
        · refine zw_aload dL_facts_291 rfl ?_
          refine zw_aload_n dL_facts_293 rfl ?_
          refine zw_getR dL_facts_294 zfL_22 rfl wk (by decide) gl ?_
          refine zw_alen (t := 0) dL_facts_297 il.1 (by decide) ?_
          rw [il.2.2.2.1]
          refine zw_iload dL_facts_298 rfl ?_
          refine zw_iadd dL_facts_300 ?_
          rw [nI_add]
          refine zw_iaload dL_facts_301 ir.1 (zin_of ir.2.2.2.1 (vp_in_nI (by omega) (by omega))) ?_
          rw [nI_clamp (show ls.length + a < 2 ^ 31 by omega), ir.2.2.2.2 (ls.length + a) _ hea.1]
          refine zw_iload dL_facts_302 rfl ?_
          refine zw_icmpne (tgt := 311) dL_facts_304 (by decide) (fun c304 => ?_) (fun c304 => ?_)
          · refine zw_iconst (x := 0) dL_facts_311 rfl ?_
            refine zw_goto (tgt := 433) dL_facts_312 (by decide) ?_
            exact zw_loc (lc' := (12, .ref rr) :: [(0, .ref 1), (1, .ref 30), (2, .ref 0), (3, .int 9), (4, .int (nI rows.length)), (5, .ref (zn σ0)), (6, .int (nI k)), (7, .int (x)), (8, .int (nI 1)), (9, .int (nI a)), (10, .int (nI b)), (11, .int (nI st))]) (zsub_cons rfl (zsub_cons rfl (zsub_cons rfl (zsub_cons rfl (zsub_cons rfl (zsub_cons rfl (zsub_cons rfl (zsub_cons rfl (zsub_cons rfl (zsub_cons rfl (zsub_cons rfl (zsub_cons rfl (zsub_cons rfl zsub_nil))))))))))))) (lp_fe hw0 cr0 wh0 lo h1 h3 h2 hn hrok hkey hk hst σ uc us hu fz fb ft fs fp (show (0 : Int32) = zb (xHold σ k (zI σ 9 st)) by rw [hh, decide_eq_false c304]; rfl) (fun σ2 q1 q2 q3 q4 q5 q6 => ih (st + 1) σ2 (by omega) q1 q2 q3 q4 q5 q6))
          · refine zw_iconst (x := 1) dL_facts_307 rfl ?_
            refine zw_goto (tgt := 433) dL_facts_308 (by decide) ?_
            exact zw_loc (lc' := (12, .ref rr) :: [(0, .ref 1), (1, .ref 30), (2, .ref 0), (3, .int 9), (4, .int (nI rows.length)), (5, .ref (zn σ0)), (6, .int (nI k)), (7, .int (x)), (8, .int (nI 1)), (9, .int (nI a)), (10, .int (nI b)), (11, .int (nI st))]) (zsub_cons rfl (zsub_cons rfl (zsub_cons rfl (zsub_cons rfl (zsub_cons rfl (zsub_cons rfl (zsub_cons rfl (zsub_cons rfl (zsub_cons rfl (zsub_cons rfl (zsub_cons rfl (zsub_cons rfl (zsub_cons rfl zsub_nil))))))))))))) (lp_fe hw0 cr0 wh0 lo h1 h3 h2 hn hrok hkey hk hst σ uc us hu fz fb ft fs fp (show (1 : Int32) = zb (xHold σ k (zI σ 9 st)) by rw [hh, decide_eq_true c304]; rfl) (fun σ2 q1 q2 q3 q4 q5 q6 => ih (st + 1) σ2 (by omega) q1 q2 q3 q4 q5 q6))
      · exact absurd c264 (by decide)
set_option maxHeartbeats 4000000 in
set_option maxRecDepth 100000 in
theorem lp_fi_2 {l : Launch} {σ0 : zS} {ls G : List Int32} {rows : List (List Int32)} {SS : Nat} {Q : Option Value → zS → Prop} (hw0 : zWF σ0) (cr0 : cR σ0 ls G) (wh0 : wH σ0 ls G rows) (lo : lsOk ls) (h1 : 1 ≤ ls.length) (h3 : ls.length ≤ 3) (h2 : G.length ≤ 2) (hn : rows.length ≤ 400) (hrok : ∀ r, r ∈ rows → rOk ls.length G.length r) (hkey : ∀ (s : Nat) (r : List Int32), rows[s]? = some r → zI σ0 9 s = enc ls.length G.length r) {k a b : Nat} {x : Int32} (hk : k < 8) (hval : a < G.length) (uc us : Nat) (KN : ∀ σ : zS, zU σ0 σ → xFz σ = nI (k + 1) → fB σ (zn σ0) rows.length → fT σ (zn σ0) rows.length (k + 1) → zAW l zmL_facts { frames := 4, cells := 9, slots := SS, locals := 89 } 20 [(0, .ref 1), (1, .ref 30), (2, .ref 0), (3, .int 9), (4, .int (nI rows.length)), (5, .ref (zn σ0)), (6, .int (nI (k + 1)))] [] σ uc us Q) :
    ∀ (d st : Nat) (σ : zS), st + d = rows.length → zU σ0 σ → xFz σ = nI (k + 1) → fB σ (zn σ0) rows.length → fT σ (zn σ0) rows.length k → fS σ k 2 a b → fP σ (zn σ0) k st → zAW l zmL_facts { frames := 4, cells := 9, slots := SS, locals := 89 } 239 [(0, .ref 1), (1, .ref 30), (2, .ref 0), (3, .int 9), (4, .int (nI rows.length)), (5, .ref (zn σ0)), (6, .int (nI k)), (7, .int (x)), (8, .int (nI 2)), (9, .int (nI a)), (10, .int (nI b)), (11, .int (nI st))] [] σ uc us Q := by
  intro d
  induction d with
  | zero =>
    intro st σ hd hu fz fb ft fs fp
    refine zw_iload dL_facts_239 rfl ?_
    refine zw_iload dL_facts_241 rfl ?_
    refine zw_icmpge (tgt := 440) dL_facts_243 (by decide) (fun c243 => ?_) (fun c243 => ?_)
    · refine zw_iinc dL_facts_440 rfl (by decide) rfl ?_
      refine zw_goto (tgt := 20) dL_facts_443 (by decide) ?_
      refine zw_loc (lc' := [(0, .ref 1), (1, .ref 30), (2, .ref 0), (3, .int 9), (4, .int (nI rows.length)), (5, .ref (zn σ0)), (6, .int (nI k + 1))]) (zsub_cons rfl (zsub_cons rfl (zsub_cons rfl (zsub_cons rfl (zsub_cons rfl (zsub_cons rfl (zsub_cons rfl zsub_nil))))))) ?_
      rw [nI_1]
      exact KN σ hu fz fb (fun j hj s hs => by
        by_cases c : j = k
        · rw [c]; exact fp s (by omega)
        · exact ft j (by omega) s hs)
    · exact absurd (nI_le (show rows.length ≤ st by omega) (by omega)) c243
  | succ d ih =>
    intro st σ hd hu fz fb ft fs fp
    have cr := cr0.u hw0 hu
    have hr5 : ∀ r, r ∈ rows → r.length ≤ 5 := fun r hr => by rw [(hrok r hr).1]; omega
    have wh := wh0.u cr0.1 hr5 hu
    have h30 := wh0.2.1
    have hst : st < rows.length := by omega
    have hrow : rows[st]? = some rows[st] := List.getElem?_eq_getElem hst
    have hro := hrok rows[st] (List.getElem_mem hst)
    have hrl := hro.1
    have ekey : zI σ 9 st = enc ls.length G.length rows[st] := by
      have f29 := zWF_lt hw0 (xk_29 cr0.1) (by decide)
      rw [(hu.2 9 (by omega)).2.2.2.1 (by omega)]
      exact hkey st _ hrow
    obtain ⟨f1, f2, f3⟩ := fb.2.2.2 k hk
    have hh : xHold σ k (zI σ 9 st) = decide (nI (eN rows[st] (ls.length + a)) ≤ nI b) := by
      rw [hT_2 (by omega) fs.1 fs.2.1 fs.2.2, ekey, enc_val hro h2 hval]
    have hea := hro.n (show ls.length + a < ls.length + G.length by omega)
    obtain ⟨wk, w30, ⟨la, gl, l30, il⟩, ⟨ga, gg, g30, ig⟩, sa, gsa, sa30, isa⟩ := wh
    refine zw_iload dL_facts_239 rfl ?_
    refine zw_iload dL_facts_241 rfl ?_
    refine zw_icmpge (tgt := 440) dL_facts_243 (by decide) (fun c243 => ?_) (fun c243 => ?_)
    · exact absurd c243 (nI_ge hst (by omega))
    · refine zw_aload_n dL_facts_246 rfl ?_
      refine zw_getR dL_facts_247 zfL_63 rfl wk (by decide) gsa ?_
      refine zw_iload dL_facts_250 rfl ?_
      refine zw_aaload (t := 4) dL_facts_252 isa.1 rfl (by decide) (zin_of isa.2.2.2.1 (vp_in_nI hst (by omega))) ?_
      obtain ⟨rr, er, ir⟩ := isa.2.2.2.2 st _ hrow
      rw [nI_clamp (show st < 2 ^ 31 by omega), er]
      refine zw_astore dL_facts_253 (by decide) rfl ?_
      refine zw_aload dL_facts_255 rfl ?_
      refine zw_iload dL_facts_257 rfl ?_
      refine zw_aaload (t := 6) dL_facts_259 fb.2.1 rfl (by decide) (zin_of fb.2.2.1 (vp_in_nI hk (by decide))) ?_
      rw [nI_clamp (show k < 2 ^ 31 by omega), f1]
      refine zw_iload dL_facts_260 rfl ?_
      refine zw_iload dL_facts_262 rfl ?_
      refine zw_ifne (tgt := 285) dL_facts_264 (by decide) (fun c264 => ?_) (fun c264 => ?_)
      · refine zw_iload dL_facts_285 rfl ?_
        refine zw_iconst (x := 1) dL_facts_287 rfl ?_
        refine zw_icmpne (tgt := 315) dL_facts_288 (by decide) (fun c288 => ?_) (fun c288 => ?_)
        · refine zw_iload dL_facts_315 rfl ?_
          refine zw_iconst (x := 2) dL_facts_317 rfl ?_
          refine zw_icmpne (tgt := 345) dL_facts_318 (by decide) (fun c318 => ?_) (fun c318 => ?_)
          · exact absurd c318 (by decide)
          · refine zw_aload dL_facts_321 rfl ?_
            refine zw_aload_n dL_facts_323 rfl ?_
            refine zw_getR dL_facts_324 zfL_22 rfl wk (by decide) gl ?_
            refine zw_alen (t := 0) dL_facts_327 il.1 (by decide) ?_
            rw [il.2.2.2.1]
            refine zw_iload dL_facts_328 rfl ?_
            refine zw_iadd dL_facts_330 ?_
            rw [nI_add]
            refine zw_iaload dL_facts_331 ir.1 (zin_of ir.2.2.2.1 (vp_in_nI (by omega) (by omega))) ?_
            rw [nI_clamp (show ls.length + a < 2 ^ 31 by omega), ir.2.2.2.2 (ls.length + a) _ hea.1]
            refine zw_iload dL_facts_332 rfl ?_
            refine zw_icmpgt (tgt := 341) dL_facts_334 (by decide) (fun c334 => ?_) (fun c334 => ?_)
            · refine zw_iconst (x := 0) dL_facts_341 rfl ?_
              refine zw_goto (tgt := 433) dL_facts_342 (by decide) ?_
              exact zw_loc (lc' := (12, .ref rr) :: [(0, .ref 1), (1, .ref 30), (2, .ref 0), (3, .int 9), (4, .int (nI rows.length)), (5, .ref (zn σ0)), (6, .int (nI k)), (7, .int (x)), (8, .int (nI 2)), (9, .int (nI a)), (10, .int (nI b)), (11, .int (nI st))]) (zsub_cons rfl (zsub_cons rfl (zsub_cons rfl (zsub_cons rfl (zsub_cons rfl (zsub_cons rfl (zsub_cons rfl (zsub_cons rfl (zsub_cons rfl (zsub_cons rfl (zsub_cons rfl (zsub_cons rfl (zsub_cons rfl zsub_nil))))))))))))) (lp_fe hw0 cr0 wh0 lo h1 h3 h2 hn hrok hkey hk hst σ uc us hu fz fb ft fs fp (show (0 : Int32) = zb (xHold σ k (zI σ 9 st)) by rw [hh, decide_eq_false (fun q => absurd c334 (Int32.not_lt.mpr q))]; rfl) (fun σ2 q1 q2 q3 q4 q5 q6 => ih (st + 1) σ2 (by omega) q1 q2 q3 q4 q5 q6))
            · refine zw_iconst (x := 1) dL_facts_337 rfl ?_
              refine zw_goto (tgt := 433) dL_facts_338 (by decide) ?_
              exact zw_loc (lc' := (12, .ref rr) :: [(0, .ref 1), (1, .ref 30), (2, .ref 0), (3, .int 9), (4, .int (nI rows.length)), (5, .ref (zn σ0)), (6, .int (nI k)), (7, .int (x)), (8, .int (nI 2)), (9, .int (nI a)), (10, .int (nI b)), (11, .int (nI st))]) (zsub_cons rfl (zsub_cons rfl (zsub_cons rfl (zsub_cons rfl (zsub_cons rfl (zsub_cons rfl (zsub_cons rfl (zsub_cons rfl (zsub_cons rfl (zsub_cons rfl (zsub_cons rfl (zsub_cons rfl (zsub_cons rfl zsub_nil))))))))))))) (lp_fe hw0 cr0 wh0 lo h1 h3 h2 hn hrok hkey hk hst σ uc us hu fz fb ft fs fp (show (1 : Int32) = zb (xHold σ k (zI σ 9 st)) by rw [hh, decide_eq_true (Int32.not_lt.mp c334)]; rfl) (fun σ2 q1 q2 q3 q4 q5 q6 => ih (st + 1) σ2 (by omega) q1 q2 q3 q4 q5 q6))
        · exact absurd c288 (by decide)
      · exact absurd c264 (by decide)
set_option maxHeartbeats 4000000 in
set_option maxRecDepth 100000 in
theorem lp_fi_3 {l : Launch} {σ0 : zS} {ls G : List Int32} {rows : List (List Int32)} {SS : Nat} {Q : Option Value → zS → Prop} (hw0 : zWF σ0) (cr0 : cR σ0 ls G) (wh0 : wH σ0 ls G rows) (lo : lsOk ls) (h1 : 1 ≤ ls.length) (h3 : ls.length ≤ 3) (h2 : G.length ≤ 2) (hn : rows.length ≤ 400) (hrok : ∀ r, r ∈ rows → rOk ls.length G.length r) (hkey : ∀ (s : Nat) (r : List Int32), rows[s]? = some r → zI σ0 9 s = enc ls.length G.length r) {k a b : Nat} {x : Int32} (hk : k < 8) (hval : a < k) (uc us : Nat) (KN : ∀ σ : zS, zU σ0 σ → xFz σ = nI (k + 1) → fB σ (zn σ0) rows.length → fT σ (zn σ0) rows.length (k + 1) → zAW l zmL_facts { frames := 4, cells := 9, slots := SS, locals := 89 } 20 [(0, .ref 1), (1, .ref 30), (2, .ref 0), (3, .int 9), (4, .int (nI rows.length)), (5, .ref (zn σ0)), (6, .int (nI (k + 1)))] [] σ uc us Q) :
    ∀ (d st : Nat) (σ : zS), st + d = rows.length → zU σ0 σ → xFz σ = nI (k + 1) → fB σ (zn σ0) rows.length → fT σ (zn σ0) rows.length k → fS σ k 3 a b → fP σ (zn σ0) k st → zAW l zmL_facts { frames := 4, cells := 9, slots := SS, locals := 89 } 239 [(0, .ref 1), (1, .ref 30), (2, .ref 0), (3, .int 9), (4, .int (nI rows.length)), (5, .ref (zn σ0)), (6, .int (nI k)), (7, .int (x)), (8, .int (nI 3)), (9, .int (nI a)), (10, .int (nI b)), (11, .int (nI st))] [] σ uc us Q := by
  intro d
  induction d with
  | zero =>
    intro st σ hd hu fz fb ft fs fp
    refine zw_iload dL_facts_239 rfl ?_
    refine zw_iload dL_facts_241 rfl ?_
    refine zw_icmpge (tgt := 440) dL_facts_243 (by decide) (fun c243 => ?_) (fun c243 => ?_)
    · refine zw_iinc dL_facts_440 rfl (by decide) rfl ?_
      refine zw_goto (tgt := 20) dL_facts_443 (by decide) ?_
      refine zw_loc (lc' := [(0, .ref 1), (1, .ref 30), (2, .ref 0), (3, .int 9), (4, .int (nI rows.length)), (5, .ref (zn σ0)), (6, .int (nI k + 1))]) (zsub_cons rfl (zsub_cons rfl (zsub_cons rfl (zsub_cons rfl (zsub_cons rfl (zsub_cons rfl (zsub_cons rfl zsub_nil))))))) ?_
      rw [nI_1]
      exact KN σ hu fz fb (fun j hj s hs => by
        by_cases c : j = k
        · rw [c]; exact fp s (by omega)
        · exact ft j (by omega) s hs)
    · exact absurd (nI_le (show rows.length ≤ st by omega) (by omega)) c243
  | succ d ih =>
    intro st σ hd hu fz fb ft fs fp
    have cr := cr0.u hw0 hu
    have hr5 : ∀ r, r ∈ rows → r.length ≤ 5 := fun r hr => by rw [(hrok r hr).1]; omega
    have wh := wh0.u cr0.1 hr5 hu
    have h30 := wh0.2.1
    have hst : st < rows.length := by omega
    have hrow : rows[st]? = some rows[st] := List.getElem?_eq_getElem hst
    have hro := hrok rows[st] (List.getElem_mem hst)
    have hrl := hro.1
    have ekey : zI σ 9 st = enc ls.length G.length rows[st] := by
      have f29 := zWF_lt hw0 (xk_29 cr0.1) (by decide)
      rw [(hu.2 9 (by omega)).2.2.2.1 (by omega)]
      exact hkey st _ hrow
    obtain ⟨f1, f2, f3⟩ := fb.2.2.2 k hk
    have hh : xHold σ k (zI σ 9 st) = !xHold σ a (zI σ 9 st) := hT_3 (by omega) fs.1 fs.2.1 hval
    obtain ⟨fa1, fa2, fa3⟩ := fb.2.2.2 a (by omega)
    have ea := ft a hval st hst
    obtain ⟨wk, w30, ⟨la, gl, l30, il⟩, ⟨ga, gg, g30, ig⟩, sa, gsa, sa30, isa⟩ := wh
    refine zw_iload dL_facts_239 rfl ?_
    refine zw_iload dL_facts_241 rfl ?_
    refine zw_icmpge (tgt := 440) dL_facts_243 (by decide) (fun c243 => ?_) (fun c243 => ?_)
    · exact absurd c243 (nI_ge hst (by omega))
    · refine zw_aload_n dL_facts_246 rfl ?_
      refine zw_getR dL_facts_247 zfL_63 rfl wk (by decide) gsa ?_
      refine zw_iload dL_facts_250 rfl ?_
      refine zw_aaload (t := 4) dL_facts_252 isa.1 rfl (by decide) (zin_of isa.2.2.2.1 (vp_in_nI hst (by omega))) ?_
      obtain ⟨rr, er, ir⟩ := isa.2.2.2.2 st _ hrow
      rw [nI_clamp (show st < 2 ^ 31 by omega), er]
      refine zw_astore dL_facts_253 (by decide) rfl ?_
      refine zw_aload dL_facts_255 rfl ?_
      refine zw_iload dL_facts_257 rfl ?_
      refine zw_aaload (t := 6) dL_facts_259 fb.2.1 rfl (by decide) (zin_of fb.2.2.1 (vp_in_nI hk (by decide))) ?_
      rw [nI_clamp (show k < 2 ^ 31 by omega), f1]
      refine zw_iload dL_facts_260 rfl ?_
      refine zw_iload dL_facts_262 rfl ?_
      refine zw_ifne (tgt := 285) dL_facts_264 (by decide) (fun c264 => ?_) (fun c264 => ?_)
      · refine zw_iload dL_facts_285 rfl ?_
        refine zw_iconst (x := 1) dL_facts_287 rfl ?_
        refine zw_icmpne (tgt := 315) dL_facts_288 (by decide) (fun c288 => ?_) (fun c288 => ?_)
        · refine zw_iload dL_facts_315 rfl ?_
          refine zw_iconst (x := 2) dL_facts_317 rfl ?_
          refine zw_icmpne (tgt := 345) dL_facts_318 (by decide) (fun c318 => ?_) (fun c318 => ?_)
          · refine zw_iload dL_facts_345 rfl ?_
            refine zw_iconst (x := 3) dL_facts_347 rfl ?_
            refine zw_icmpne (tgt := 370) dL_facts_348 (by decide) (fun c348 => ?_) (fun c348 => ?_)
            · exact absurd c348 (by decide)
            · refine zw_aload dL_facts_351 rfl ?_
              refine zw_iload dL_facts_353 rfl ?_
              refine zw_aaload (t := 6) dL_facts_355 fb.2.1 rfl (by decide) (zin_of fb.2.2.1 (vp_in_nI (show a < 8 by omega) (by decide))) ?_
              rw [nI_clamp (show a < 2 ^ 31 by omega), fa1]
              refine zw_iload dL_facts_356 rfl ?_
              refine zw_baload dL_facts_358 fa2 (zin_of fa3 (vp_in_nI hst (by omega))) ?_
              rw [nI_clamp (show st < 2 ^ 31 by omega), ea]
              refine zw_ifne (tgt := 366) dL_facts_359 (by decide) (fun c359 => ?_) (fun c359 => ?_)
              · refine zw_iconst (x := 0) dL_facts_366 rfl ?_
                refine zw_goto (tgt := 433) dL_facts_367 (by decide) ?_
                exact zw_loc (lc' := (12, .ref rr) :: [(0, .ref 1), (1, .ref 30), (2, .ref 0), (3, .int 9), (4, .int (nI rows.length)), (5, .ref (zn σ0)), (6, .int (nI k)), (7, .int (x)), (8, .int (nI 3)), (9, .int (nI a)), (10, .int (nI b)), (11, .int (nI st))]) (zsub_cons rfl (zsub_cons rfl (zsub_cons rfl (zsub_cons rfl (zsub_cons rfl (zsub_cons rfl (zsub_cons rfl (zsub_cons rfl (zsub_cons rfl (zsub_cons rfl (zsub_cons rfl (zsub_cons rfl (zsub_cons rfl zsub_nil))))))))))))) (lp_fe hw0 cr0 wh0 lo h1 h3 h2 hn hrok hkey hk hst σ uc us hu fz fb ft fs fp (show (0 : Int32) = zb (xHold σ k (zI σ 9 st)) by rw [hh, zb_1.mp c359]; rfl) (fun σ2 q1 q2 q3 q4 q5 q6 => ih (st + 1) σ2 (by omega) q1 q2 q3 q4 q5 q6))
              · refine zw_iconst (x := 1) dL_facts_362 rfl ?_
                refine zw_goto (tgt := 433) dL_facts_363 (by decide) ?_
                exact zw_loc (lc' := (12, .ref rr) :: [(0, .ref 1), (1, .ref 30), (2, .ref 0), (3, .int 9), (4, .int (nI rows.length)), (5, .ref (zn σ0)), (6, .int (nI k)), (7, .int (x)), (8, .int (nI 3)), (9, .int (nI a)), (10, .int (nI b)), (11, .int (nI st))]) (zsub_cons rfl (zsub_cons rfl (zsub_cons rfl (zsub_cons rfl (zsub_cons rfl (zsub_cons rfl (zsub_cons rfl (zsub_cons rfl (zsub_cons rfl (zsub_cons rfl (zsub_cons rfl (zsub_cons rfl (zsub_cons rfl zsub_nil))))))))))))) (lp_fe hw0 cr0 wh0 lo h1 h3 h2 hn hrok hkey hk hst σ uc us hu fz fb ft fs fp (show (1 : Int32) = zb (xHold σ k (zI σ 9 st)) by rw [hh, zb_0.mp c359]; rfl) (fun σ2 q1 q2 q3 q4 q5 q6 => ih (st + 1) σ2 (by omega) q1 q2 q3 q4 q5 q6))
          · exact absurd c318 (by decide)
        · exact absurd c288 (by decide)
      · exact absurd c264 (by decide)
set_option maxHeartbeats 4000000 in
set_option maxRecDepth 100000 in
theorem lp_fi_4 {l : Launch} {σ0 : zS} {ls G : List Int32} {rows : List (List Int32)} {SS : Nat} {Q : Option Value → zS → Prop} (hw0 : zWF σ0) (cr0 : cR σ0 ls G) (wh0 : wH σ0 ls G rows) (lo : lsOk ls) (h1 : 1 ≤ ls.length) (h3 : ls.length ≤ 3) (h2 : G.length ≤ 2) (hn : rows.length ≤ 400) (hrok : ∀ r, r ∈ rows → rOk ls.length G.length r) (hkey : ∀ (s : Nat) (r : List Int32), rows[s]? = some r → zI σ0 9 s = enc ls.length G.length r) {k a b : Nat} {x : Int32} (hk : k < 8) (hval : a < k ∧ b < k) (uc us : Nat) (KN : ∀ σ : zS, zU σ0 σ → xFz σ = nI (k + 1) → fB σ (zn σ0) rows.length → fT σ (zn σ0) rows.length (k + 1) → zAW l zmL_facts { frames := 4, cells := 9, slots := SS, locals := 89 } 20 [(0, .ref 1), (1, .ref 30), (2, .ref 0), (3, .int 9), (4, .int (nI rows.length)), (5, .ref (zn σ0)), (6, .int (nI (k + 1)))] [] σ uc us Q) :
    ∀ (d st : Nat) (σ : zS), st + d = rows.length → zU σ0 σ → xFz σ = nI (k + 1) → fB σ (zn σ0) rows.length → fT σ (zn σ0) rows.length k → fS σ k 4 a b → fP σ (zn σ0) k st → zAW l zmL_facts { frames := 4, cells := 9, slots := SS, locals := 89 } 239 [(0, .ref 1), (1, .ref 30), (2, .ref 0), (3, .int 9), (4, .int (nI rows.length)), (5, .ref (zn σ0)), (6, .int (nI k)), (7, .int (x)), (8, .int (nI 4)), (9, .int (nI a)), (10, .int (nI b)), (11, .int (nI st))] [] σ uc us Q := by
  intro d
  induction d with
  | zero =>
    intro st σ hd hu fz fb ft fs fp
    refine zw_iload dL_facts_239 rfl ?_
    refine zw_iload dL_facts_241 rfl ?_
    refine zw_icmpge (tgt := 440) dL_facts_243 (by decide) (fun c243 => ?_) (fun c243 => ?_)
    · refine zw_iinc dL_facts_440 rfl (by decide) rfl ?_
      refine zw_goto (tgt := 20) dL_facts_443 (by decide) ?_
      refine zw_loc (lc' := [(0, .ref 1), (1, .ref 30), (2, .ref 0), (3, .int 9), (4, .int (nI rows.length)), (5, .ref (zn σ0)), (6, .int (nI k + 1))]) (zsub_cons rfl (zsub_cons rfl (zsub_cons rfl (zsub_cons rfl (zsub_cons rfl (zsub_cons rfl (zsub_cons rfl zsub_nil))))))) ?_
      rw [nI_1]
      exact KN σ hu fz fb (fun j hj s hs => by
        by_cases c : j = k
        · rw [c]; exact fp s (by omega)
        · exact ft j (by omega) s hs)
    · exact absurd (nI_le (show rows.length ≤ st by omega) (by omega)) c243
  | succ d ih =>
    intro st σ hd hu fz fb ft fs fp
    have cr := cr0.u hw0 hu
    have hr5 : ∀ r, r ∈ rows → r.length ≤ 5 := fun r hr => by rw [(hrok r hr).1]; omega
    have wh := wh0.u cr0.1 hr5 hu
    have h30 := wh0.2.1
    have hst : st < rows.length := by omega
    have hrow : rows[st]? = some rows[st] := List.getElem?_eq_getElem hst
    have hro := hrok rows[st] (List.getElem_mem hst)
    have hrl := hro.1
    have ekey : zI σ 9 st = enc ls.length G.length rows[st] := by
      have f29 := zWF_lt hw0 (xk_29 cr0.1) (by decide)
      rw [(hu.2 9 (by omega)).2.2.2.1 (by omega)]
      exact hkey st _ hrow
    obtain ⟨f1, f2, f3⟩ := fb.2.2.2 k hk
    obtain ⟨hva, hvb⟩ := hval
    have hh : xHold σ k (zI σ 9 st) = (xHold σ a (zI σ 9 st) && xHold σ b (zI σ 9 st)) := hT_4 (by omega) fs.1 fs.2.1 fs.2.2 hva hvb
    obtain ⟨fa1, fa2, fa3⟩ := fb.2.2.2 a (by omega)
    have ea := ft a hva st hst
    obtain ⟨fb1, fb2, fb3⟩ := fb.2.2.2 b (by omega)
    have eb := ft b hvb st hst
    obtain ⟨wk, w30, ⟨la, gl, l30, il⟩, ⟨ga, gg, g30, ig⟩, sa, gsa, sa30, isa⟩ := wh
    refine zw_iload dL_facts_239 rfl ?_
    refine zw_iload dL_facts_241 rfl ?_
    refine zw_icmpge (tgt := 440) dL_facts_243 (by decide) (fun c243 => ?_) (fun c243 => ?_)
    · exact absurd c243 (nI_ge hst (by omega))
    · refine zw_aload_n dL_facts_246 rfl ?_
      refine zw_getR dL_facts_247 zfL_63 rfl wk (by decide) gsa ?_
      refine zw_iload dL_facts_250 rfl ?_
      refine zw_aaload (t := 4) dL_facts_252 isa.1 rfl (by decide) (zin_of isa.2.2.2.1 (vp_in_nI hst (by omega))) ?_
      obtain ⟨rr, er, ir⟩ := isa.2.2.2.2 st _ hrow
      rw [nI_clamp (show st < 2 ^ 31 by omega), er]
      refine zw_astore dL_facts_253 (by decide) rfl ?_
      refine zw_aload dL_facts_255 rfl ?_
      refine zw_iload dL_facts_257 rfl ?_
      refine zw_aaload (t := 6) dL_facts_259 fb.2.1 rfl (by decide) (zin_of fb.2.2.1 (vp_in_nI hk (by decide))) ?_
      rw [nI_clamp (show k < 2 ^ 31 by omega), f1]
      refine zw_iload dL_facts_260 rfl ?_
      refine zw_iload dL_facts_262 rfl ?_
      refine zw_ifne (tgt := 285) dL_facts_264 (by decide) (fun c264 => ?_) (fun c264 => ?_)
      · refine zw_iload dL_facts_285 rfl ?_
        refine zw_iconst (x := 1) dL_facts_287 rfl ?_
        refine zw_icmpne (tgt := 315) dL_facts_288 (by decide) (fun c288 => ?_) (fun c288 => ?_)
        · refine zw_iload dL_facts_315 rfl ?_
          refine zw_iconst (x := 2) dL_facts_317 rfl ?_
          refine zw_icmpne (tgt := 345) dL_facts_318 (by decide) (fun c318 => ?_) (fun c318 => ?_)
          · refine zw_iload dL_facts_345 rfl ?_
            refine zw_iconst (x := 3) dL_facts_347 rfl ?_
            refine zw_icmpne (tgt := 370) dL_facts_348 (by decide) (fun c348 => ?_) (fun c348 => ?_)
            · refine zw_iload dL_facts_370 rfl ?_
              refine zw_iconst (x := 4) dL_facts_372 rfl ?_
              refine zw_icmpne (tgt := 406) dL_facts_373 (by decide) (fun c373 => ?_) (fun c373 => ?_)
              · exact absurd c373 (by decide)
              · refine zw_aload dL_facts_376 rfl ?_
                refine zw_iload dL_facts_378 rfl ?_
                refine zw_aaload (t := 6) dL_facts_380 fb.2.1 rfl (by decide) (zin_of fb.2.2.1 (vp_in_nI (show a < 8 by omega) (by decide))) ?_
                rw [nI_clamp (show a < 2 ^ 31 by omega), fa1]
                refine zw_iload dL_facts_381 rfl ?_
                refine zw_baload dL_facts_383 fa2 (zin_of fa3 (vp_in_nI hst (by omega))) ?_
                rw [nI_clamp (show st < 2 ^ 31 by omega), ea]
                refine zw_ifeq (tgt := 402) dL_facts_384 (by decide) (fun c384 => ?_) (fun c384 => ?_)
                · refine zw_iconst (x := 0) dL_facts_402 rfl ?_
                  refine zw_goto (tgt := 433) dL_facts_403 (by decide) ?_
                  exact zw_loc (lc' := (12, .ref rr) :: [(0, .ref 1), (1, .ref 30), (2, .ref 0), (3, .int 9), (4, .int (nI rows.length)), (5, .ref (zn σ0)), (6, .int (nI k)), (7, .int (x)), (8, .int (nI 4)), (9, .int (nI a)), (10, .int (nI b)), (11, .int (nI st))]) (zsub_cons rfl (zsub_cons rfl (zsub_cons rfl (zsub_cons rfl (zsub_cons rfl (zsub_cons rfl (zsub_cons rfl (zsub_cons rfl (zsub_cons rfl (zsub_cons rfl (zsub_cons rfl (zsub_cons rfl (zsub_cons rfl zsub_nil))))))))))))) (lp_fe hw0 cr0 wh0 lo h1 h3 h2 hn hrok hkey hk hst σ uc us hu fz fb ft fs fp (show (0 : Int32) = zb (xHold σ k (zI σ 9 st)) by rw [hh, zb_0.mp c384]; rfl) (fun σ2 q1 q2 q3 q4 q5 q6 => ih (st + 1) σ2 (by omega) q1 q2 q3 q4 q5 q6))
                · refine zw_aload dL_facts_387 rfl ?_
                  refine zw_iload dL_facts_389 rfl ?_
                  refine zw_aaload (t := 6) dL_facts_391 fb.2.1 rfl (by decide) (zin_of fb.2.2.1 (vp_in_nI (show b < 8 by omega) (by decide))) ?_
                  rw [nI_clamp (show b < 2 ^ 31 by omega), fb1]
                  refine zw_iload dL_facts_392 rfl ?_
                  refine zw_baload dL_facts_394 fb2 (zin_of fb3 (vp_in_nI hst (by omega))) ?_
                  rw [nI_clamp (show st < 2 ^ 31 by omega), eb]
                  refine zw_ifeq (tgt := 402) dL_facts_395 (by decide) (fun c395 => ?_) (fun c395 => ?_)
                  · refine zw_iconst (x := 0) dL_facts_402 rfl ?_
                    refine zw_goto (tgt := 433) dL_facts_403 (by decide) ?_
                    exact zw_loc (lc' := (12, .ref rr) :: [(0, .ref 1), (1, .ref 30), (2, .ref 0), (3, .int 9), (4, .int (nI rows.length)), (5, .ref (zn σ0)), (6, .int (nI k)), (7, .int (x)), (8, .int (nI 4)), (9, .int (nI a)), (10, .int (nI b)), (11, .int (nI st))]) (zsub_cons rfl (zsub_cons rfl (zsub_cons rfl (zsub_cons rfl (zsub_cons rfl (zsub_cons rfl (zsub_cons rfl (zsub_cons rfl (zsub_cons rfl (zsub_cons rfl (zsub_cons rfl (zsub_cons rfl (zsub_cons rfl zsub_nil))))))))))))) (lp_fe hw0 cr0 wh0 lo h1 h3 h2 hn hrok hkey hk hst σ uc us hu fz fb ft fs fp (show (0 : Int32) = zb (xHold σ k (zI σ 9 st)) by rw [hh, zb_0.mp c395, Bool.and_false]; rfl) (fun σ2 q1 q2 q3 q4 q5 q6 => ih (st + 1) σ2 (by omega) q1 q2 q3 q4 q5 q6))
                  · refine zw_iconst (x := 1) dL_facts_398 rfl ?_
                    refine zw_goto (tgt := 433) dL_facts_399 (by decide) ?_
                    exact zw_loc (lc' := (12, .ref rr) :: [(0, .ref 1), (1, .ref 30), (2, .ref 0), (3, .int 9), (4, .int (nI rows.length)), (5, .ref (zn σ0)), (6, .int (nI k)), (7, .int (x)), (8, .int (nI 4)), (9, .int (nI a)), (10, .int (nI b)), (11, .int (nI st))]) (zsub_cons rfl (zsub_cons rfl (zsub_cons rfl (zsub_cons rfl (zsub_cons rfl (zsub_cons rfl (zsub_cons rfl (zsub_cons rfl (zsub_cons rfl (zsub_cons rfl (zsub_cons rfl (zsub_cons rfl (zsub_cons rfl zsub_nil))))))))))))) (lp_fe hw0 cr0 wh0 lo h1 h3 h2 hn hrok hkey hk hst σ uc us hu fz fb ft fs fp (show (1 : Int32) = zb (xHold σ k (zI σ 9 st)) by rw [hh, zb_1.mp c384, zb_1.mp c395]; rfl) (fun σ2 q1 q2 q3 q4 q5 q6 => ih (st + 1) σ2 (by omega) q1 q2 q3 q4 q5 q6))
            · exact absurd c348 (by decide)
          · exact absurd c318 (by decide)
        · exact absurd c288 (by decide)
      · exact absurd c264 (by decide)
set_option maxHeartbeats 4000000 in
set_option maxRecDepth 100000 in
theorem lp_fi_5 {l : Launch} {σ0 : zS} {ls G : List Int32} {rows : List (List Int32)} {SS : Nat} {Q : Option Value → zS → Prop} (hw0 : zWF σ0) (cr0 : cR σ0 ls G) (wh0 : wH σ0 ls G rows) (lo : lsOk ls) (h1 : 1 ≤ ls.length) (h3 : ls.length ≤ 3) (h2 : G.length ≤ 2) (hn : rows.length ≤ 400) (hrok : ∀ r, r ∈ rows → rOk ls.length G.length r) (hkey : ∀ (s : Nat) (r : List Int32), rows[s]? = some r → zI σ0 9 s = enc ls.length G.length r) {k a b : Nat} {x : Int32} (hk : k < 8) (hval : a < k ∧ b < k) (uc us : Nat) (KN : ∀ σ : zS, zU σ0 σ → xFz σ = nI (k + 1) → fB σ (zn σ0) rows.length → fT σ (zn σ0) rows.length (k + 1) → zAW l zmL_facts { frames := 4, cells := 9, slots := SS, locals := 89 } 20 [(0, .ref 1), (1, .ref 30), (2, .ref 0), (3, .int 9), (4, .int (nI rows.length)), (5, .ref (zn σ0)), (6, .int (nI (k + 1)))] [] σ uc us Q) :
    ∀ (d st : Nat) (σ : zS), st + d = rows.length → zU σ0 σ → xFz σ = nI (k + 1) → fB σ (zn σ0) rows.length → fT σ (zn σ0) rows.length k → fS σ k 5 a b → fP σ (zn σ0) k st → zAW l zmL_facts { frames := 4, cells := 9, slots := SS, locals := 89 } 239 [(0, .ref 1), (1, .ref 30), (2, .ref 0), (3, .int 9), (4, .int (nI rows.length)), (5, .ref (zn σ0)), (6, .int (nI k)), (7, .int (x)), (8, .int (nI 5)), (9, .int (nI a)), (10, .int (nI b)), (11, .int (nI st))] [] σ uc us Q := by
  intro d
  induction d with
  | zero =>
    intro st σ hd hu fz fb ft fs fp
    refine zw_iload dL_facts_239 rfl ?_
    refine zw_iload dL_facts_241 rfl ?_
    refine zw_icmpge (tgt := 440) dL_facts_243 (by decide) (fun c243 => ?_) (fun c243 => ?_)
    · refine zw_iinc dL_facts_440 rfl (by decide) rfl ?_
      refine zw_goto (tgt := 20) dL_facts_443 (by decide) ?_
      refine zw_loc (lc' := [(0, .ref 1), (1, .ref 30), (2, .ref 0), (3, .int 9), (4, .int (nI rows.length)), (5, .ref (zn σ0)), (6, .int (nI k + 1))]) (zsub_cons rfl (zsub_cons rfl (zsub_cons rfl (zsub_cons rfl (zsub_cons rfl (zsub_cons rfl (zsub_cons rfl zsub_nil))))))) ?_
      rw [nI_1]
      exact KN σ hu fz fb (fun j hj s hs => by
        by_cases c : j = k
        · rw [c]; exact fp s (by omega)
        · exact ft j (by omega) s hs)
    · exact absurd (nI_le (show rows.length ≤ st by omega) (by omega)) c243
  | succ d ih =>
    intro st σ hd hu fz fb ft fs fp
    have cr := cr0.u hw0 hu
    have hr5 : ∀ r, r ∈ rows → r.length ≤ 5 := fun r hr => by rw [(hrok r hr).1]; omega
    have wh := wh0.u cr0.1 hr5 hu
    have h30 := wh0.2.1
    have hst : st < rows.length := by omega
    have hrow : rows[st]? = some rows[st] := List.getElem?_eq_getElem hst
    have hro := hrok rows[st] (List.getElem_mem hst)
    have hrl := hro.1
    have ekey : zI σ 9 st = enc ls.length G.length rows[st] := by
      have f29 := zWF_lt hw0 (xk_29 cr0.1) (by decide)
      rw [(hu.2 9 (by omega)).2.2.2.1 (by omega)]
      exact hkey st _ hrow
    obtain ⟨f1, f2, f3⟩ := fb.2.2.2 k hk
    obtain ⟨hva, hvb⟩ := hval
    have hh : xHold σ k (zI σ 9 st) = (xHold σ a (zI σ 9 st) || xHold σ b (zI σ 9 st)) := hT_5 (by omega) fs.1 fs.2.1 fs.2.2 hva hvb
    obtain ⟨fa1, fa2, fa3⟩ := fb.2.2.2 a (by omega)
    have ea := ft a hva st hst
    obtain ⟨fb1, fb2, fb3⟩ := fb.2.2.2 b (by omega)
    have eb := ft b hvb st hst
    obtain ⟨wk, w30, ⟨la, gl, l30, il⟩, ⟨ga, gg, g30, ig⟩, sa, gsa, sa30, isa⟩ := wh
    refine zw_iload dL_facts_239 rfl ?_
    refine zw_iload dL_facts_241 rfl ?_
    refine zw_icmpge (tgt := 440) dL_facts_243 (by decide) (fun c243 => ?_) (fun c243 => ?_)
    · exact absurd c243 (nI_ge hst (by omega))
    · refine zw_aload_n dL_facts_246 rfl ?_
      refine zw_getR dL_facts_247 zfL_63 rfl wk (by decide) gsa ?_
      refine zw_iload dL_facts_250 rfl ?_
      refine zw_aaload (t := 4) dL_facts_252 isa.1 rfl (by decide) (zin_of isa.2.2.2.1 (vp_in_nI hst (by omega))) ?_
      obtain ⟨rr, er, ir⟩ := isa.2.2.2.2 st _ hrow
      rw [nI_clamp (show st < 2 ^ 31 by omega), er]
      refine zw_astore dL_facts_253 (by decide) rfl ?_
      refine zw_aload dL_facts_255 rfl ?_
      refine zw_iload dL_facts_257 rfl ?_
      refine zw_aaload (t := 6) dL_facts_259 fb.2.1 rfl (by decide) (zin_of fb.2.2.1 (vp_in_nI hk (by decide))) ?_
      rw [nI_clamp (show k < 2 ^ 31 by omega), f1]
      refine zw_iload dL_facts_260 rfl ?_
      refine zw_iload dL_facts_262 rfl ?_
      refine zw_ifne (tgt := 285) dL_facts_264 (by decide) (fun c264 => ?_) (fun c264 => ?_)
      · refine zw_iload dL_facts_285 rfl ?_
        refine zw_iconst (x := 1) dL_facts_287 rfl ?_
        refine zw_icmpne (tgt := 315) dL_facts_288 (by decide) (fun c288 => ?_) (fun c288 => ?_)
        · refine zw_iload dL_facts_315 rfl ?_
          refine zw_iconst (x := 2) dL_facts_317 rfl ?_
          refine zw_icmpne (tgt := 345) dL_facts_318 (by decide) (fun c318 => ?_) (fun c318 => ?_)
          · refine zw_iload dL_facts_345 rfl ?_
            refine zw_iconst (x := 3) dL_facts_347 rfl ?_
            refine zw_icmpne (tgt := 370) dL_facts_348 (by decide) (fun c348 => ?_) (fun c348 => ?_)
            · refine zw_iload dL_facts_370 rfl ?_
              refine zw_iconst (x := 4) dL_facts_372 rfl ?_
              refine zw_icmpne (tgt := 406) dL_facts_373 (by decide) (fun c373 => ?_) (fun c373 => ?_)
              · refine zw_aload dL_facts_406 rfl ?_
                refine zw_iload dL_facts_408 rfl ?_
                refine zw_aaload (t := 6) dL_facts_410 fb.2.1 rfl (by decide) (zin_of fb.2.2.1 (vp_in_nI (show a < 8 by omega) (by decide))) ?_
                rw [nI_clamp (show a < 2 ^ 31 by omega), fa1]
                refine zw_iload dL_facts_411 rfl ?_
                refine zw_baload dL_facts_413 fa2 (zin_of fa3 (vp_in_nI hst (by omega))) ?_
                rw [nI_clamp (show st < 2 ^ 31 by omega), ea]
                refine zw_ifne (tgt := 428) dL_facts_414 (by decide) (fun c414 => ?_) (fun c414 => ?_)
                · refine zw_iconst (x := 1) dL_facts_428 rfl ?_
                  refine zw_goto (tgt := 433) dL_facts_429 (by decide) ?_
                  exact zw_loc (lc' := (12, .ref rr) :: [(0, .ref 1), (1, .ref 30), (2, .ref 0), (3, .int 9), (4, .int (nI rows.length)), (5, .ref (zn σ0)), (6, .int (nI k)), (7, .int (x)), (8, .int (nI 5)), (9, .int (nI a)), (10, .int (nI b)), (11, .int (nI st))]) (zsub_cons rfl (zsub_cons rfl (zsub_cons rfl (zsub_cons rfl (zsub_cons rfl (zsub_cons rfl (zsub_cons rfl (zsub_cons rfl (zsub_cons rfl (zsub_cons rfl (zsub_cons rfl (zsub_cons rfl (zsub_cons rfl zsub_nil))))))))))))) (lp_fe hw0 cr0 wh0 lo h1 h3 h2 hn hrok hkey hk hst σ uc us hu fz fb ft fs fp (show (1 : Int32) = zb (xHold σ k (zI σ 9 st)) by rw [hh, zb_1.mp c414]; rfl) (fun σ2 q1 q2 q3 q4 q5 q6 => ih (st + 1) σ2 (by omega) q1 q2 q3 q4 q5 q6))
                · refine zw_aload dL_facts_417 rfl ?_
                  refine zw_iload dL_facts_419 rfl ?_
                  refine zw_aaload (t := 6) dL_facts_421 fb.2.1 rfl (by decide) (zin_of fb.2.2.1 (vp_in_nI (show b < 8 by omega) (by decide))) ?_
                  rw [nI_clamp (show b < 2 ^ 31 by omega), fb1]
                  refine zw_iload dL_facts_422 rfl ?_
                  refine zw_baload dL_facts_424 fb2 (zin_of fb3 (vp_in_nI hst (by omega))) ?_
                  rw [nI_clamp (show st < 2 ^ 31 by omega), eb]
                  refine zw_ifeq (tgt := 432) dL_facts_425 (by decide) (fun c425 => ?_) (fun c425 => ?_)
                  · refine zw_iconst (x := 0) dL_facts_432 rfl ?_
                    exact zw_loc (lc' := (12, .ref rr) :: [(0, .ref 1), (1, .ref 30), (2, .ref 0), (3, .int 9), (4, .int (nI rows.length)), (5, .ref (zn σ0)), (6, .int (nI k)), (7, .int (x)), (8, .int (nI 5)), (9, .int (nI a)), (10, .int (nI b)), (11, .int (nI st))]) (zsub_cons rfl (zsub_cons rfl (zsub_cons rfl (zsub_cons rfl (zsub_cons rfl (zsub_cons rfl (zsub_cons rfl (zsub_cons rfl (zsub_cons rfl (zsub_cons rfl (zsub_cons rfl (zsub_cons rfl (zsub_cons rfl zsub_nil))))))))))))) (lp_fe hw0 cr0 wh0 lo h1 h3 h2 hn hrok hkey hk hst σ uc us hu fz fb ft fs fp (show (0 : Int32) = zb (xHold σ k (zI σ 9 st)) by rw [hh, zb_0.mp c414, zb_0.mp c425]; rfl) (fun σ2 q1 q2 q3 q4 q5 q6 => ih (st + 1) σ2 (by omega) q1 q2 q3 q4 q5 q6))
                  · refine zw_iconst (x := 1) dL_facts_428 rfl ?_
                    refine zw_goto (tgt := 433) dL_facts_429 (by decide) ?_
                    exact zw_loc (lc' := (12, .ref rr) :: [(0, .ref 1), (1, .ref 30), (2, .ref 0), (3, .int 9), (4, .int (nI rows.length)), (5, .ref (zn σ0)), (6, .int (nI k)), (7, .int (x)), (8, .int (nI 5)), (9, .int (nI a)), (10, .int (nI b)), (11, .int (nI st))]) (zsub_cons rfl (zsub_cons rfl (zsub_cons rfl (zsub_cons rfl (zsub_cons rfl (zsub_cons rfl (zsub_cons rfl (zsub_cons rfl (zsub_cons rfl (zsub_cons rfl (zsub_cons rfl (zsub_cons rfl (zsub_cons rfl zsub_nil))))))))))))) (lp_fe hw0 cr0 wh0 lo h1 h3 h2 hn hrok hkey hk hst σ uc us hu fz fb ft fs fp (show (1 : Int32) = zb (xHold σ k (zI σ 9 st)) by rw [hh, zb_1.mp c425, Bool.or_true]; rfl) (fun σ2 q1 q2 q3 q4 q5 q6 => ih (st + 1) σ2 (by omega) q1 q2 q3 q4 q5 q6))
              · exact absurd c373 (by decide)
            · exact absurd c348 (by decide)
          · exact absurd c318 (by decide)
        · exact absurd c288 (by decide)
      · exact absurd c264 (by decide)
