/-! the law's questions: leads, holds, isBad -/
theorem wW.x {σ σ' : zS} {q : Nat} (h : zX σ σ') (h30 : 30 < zn σ) : wW σ' q = wW σ q := by
  have o : ∀ a, a < 30 → zI σ' a = zI σ a := fun a ha => (h.2 a (by omega)).2.2.1
  funext s
  unfold wW
  rw [o 9 (by decide), xHold_cg (o 18 (by decide)) (o 19 (by decide)) (o 20 (by decide))]
theorem wQ.x {σ σ' : zS} {n q : Nat} {E : Nat → List Nat} (hx : zX σ σ') (h30 : 30 < zn σ) (h : wQ σ n E (wW σ q) q) : wQ σ' n E (wW σ' q) q := by
  intro z
  rw [((hx.2 21 (by omega)).2.2.2.2 4 11).1] at z
  obtain ⟨bad, b1, b2⟩ := h z
  refine ⟨bad, ?_, by rw [wW.x hx h30]; exact b2⟩
  rw [(hx.2 24 (by omega)).2.2.1]
  exact b1
set_option maxHeartbeats 4000000 in
set_option maxRecDepth 100000 in
theorem lp_q {l : Launch} {σ : zS} {ls G : List Int32} {pk n fa : Nat} {fs dep par pst : Nat → Nat} {E : Nat → List Nat} (wl : wL σ ls G pk n fs dep par pst E fa) (h1 : 1 ≤ ls.length) {uc us : Nat} (hlf : zF σ 4 11 21 = -1) (hu1 : uc ≤ 504390) (hu2 : us ≤ 5667380) : zAW l zmL_lw { frames := 10, cells := 600086, slots := 7301442, locals := 360 } 247 [(0, .ref 0), (1, .ref 1), (2, .ref 30), (3, .int (nI n)), (4, .ref fa)] [] σ uc us (fun v _ => v = some (.int 1)) := by
  refine zw_wf (fun hw => ?_)
  refine zw_aload_n dL_law_247 rfl ?_
  refine zw_bipush (x := 6) dL_law_248 rfl ?_
  refine zw_callS (y' := zmL_cell) dL_law_250 zlL_12 zmL_cell_ok (c_L_cell hw.2.1 wl.2.1.2.2.2.2 (k := 6) (by decide)) rfl rfl (Nat.le_of_ble_eq_true rfl) ⟨Nat.le_of_ble_eq_true rfl, Nat.le_of_ble_eq_true rfl⟩ ⟨by show _ ≤ 600086; omega, by show _ ≤ 7301442; omega⟩ ?_
  intro v250 s250 q250
  obtain ⟨⟨x250, rfl⟩, z250⟩ := q250
  rw [z250]
  clear z250
  refine zw_bipush (x := 8) dL_law_253 rfl ?_
  refine zw_callS (y' := zmL_below) dL_law_255 zlL_18 zmL_below_ok (c_L_below (n := 8) (by decide) (by decide)) rfl rfl (Nat.le_of_ble_eq_true rfl) ⟨Nat.le_of_ble_eq_true rfl, Nat.le_of_ble_eq_true rfl⟩ ⟨by show _ ≤ 600086; omega, by show _ ≤ 7301442; omega⟩ ?_
  intro v255 s255 q255
  obtain ⟨⟨j255, h255, rfl⟩, z255⟩ := q255
  rw [z255]
  clear z255
  refine zw_istore dL_law_258 (by decide) rfl ?_
  refine zw_aload_n dL_law_260 rfl ?_
  refine zw_bipush (x := 6) dL_law_261 rfl ?_
  refine zw_callS (y' := zmL_cell) dL_law_263 zlL_12 zmL_cell_ok (c_L_cell hw.2.1 wl.2.1.2.2.2.2 (k := 6) (by decide)) rfl rfl (Nat.le_of_ble_eq_true rfl) ⟨Nat.le_of_ble_eq_true rfl, Nat.le_of_ble_eq_true rfl⟩ ⟨by show _ ≤ 600086; omega, by show _ ≤ 7301442; omega⟩ ?_
  intro v263 s263 q263
  obtain ⟨⟨x263, rfl⟩, z263⟩ := q263
  rw [z263]
  clear z263
  refine zw_iconst (x := 3) dL_law_266 rfl ?_
  refine zw_ishr dL_law_267 ?_
  refine zw_bipush (x := 8) dL_law_268 rfl ?_
  refine zw_callS (y' := zmL_below) dL_law_270 zlL_18 zmL_below_ok (c_L_below (n := 8) (by decide) (by decide)) rfl rfl (Nat.le_of_ble_eq_true rfl) ⟨Nat.le_of_ble_eq_true rfl, Nat.le_of_ble_eq_true rfl⟩ ⟨by show _ ≤ 600086; omega, by show _ ≤ 7301442; omega⟩ ?_
  intro v270 s270 q270
  obtain ⟨⟨j270, h270, rfl⟩, z270⟩ := q270
  rw [z270]
  clear z270
  refine zw_istore dL_law_273 (by decide) rfl ?_
  refine zw_aload_n dL_law_275 rfl ?_
  refine zw_iload dL_law_276 rfl ?_
  refine zw_iload dL_law_278 rfl ?_
  refine zw_callV (y' := zmX5_leads) dL_law_280 zlL_98 zmX5_leads_ok (xk_1 wl.1.1) (by decide) rfl (c_leads wl h270 h255 (fun z => absurd (hlf.symm.trans z) (fun e => nI_nm1 (by omega) e.symm))) rfl rfl (Nat.le_of_ble_eq_true rfl) ⟨Nat.le_of_ble_eq_true rfl, Nat.le_of_ble_eq_true rfl⟩ ⟨by show _ ≤ 600086; omega, by show _ ≤ 7301442; omega⟩ ?_
  intro v280 s280 q280
  
  obtain ⟨xt, lf, -, bad, hb, hdn, hres⟩ := q280
  have wl1 := wl.t xt
  have eW := wW.t xt (q := j255)
  have wq1 : wQ s280 n E (wW s280 j255) j255 := fun _ => ⟨bad, hb, by rw [eW]; exact hdn⟩
  have hn := wl1.1.2.2.2.2.1.2.1
  rcases hres with ⟨s, hs, rfl, hbs, hhs⟩ | ⟨rfl, hno⟩
  · obtain ⟨hws0, -, hwit0⟩ := hdn.1 s hbs
    have hws : wW s280 j255 s = true := by rw [eW]; exact hws0
    have hwit : tWit E (wW s280 j255) s := by rw [eW]; exact hwit0
    have hps : xHold s280 j270 (zI s280 9 s) = true := by
      have e := congrFun (wW.t xt (q := j270)) s
      unfold wW at e
      rw [hhs] at e
      exact Bool.not_inj e
    have hqs : xHold s280 j255 (zI s280 9 s) = false := by
      unfold wW at hws
      cases e : xHold s280 j255 (zI s280 9 s) with
      | false => rfl
      | true => rw [e] at hws; cases hws
    refine zw_istore dL_law_283 (by decide) rfl ?_
    refine zw_aload_n dL_law_285 rfl ?_
    refine zw_iload dL_law_286 rfl ?_
    refine zw_iload dL_law_288 rfl ?_
    refine zw_callV (y' := zmX5_leads) dL_law_290 zlL_98 zmX5_leads_ok (xk_1 wl1.1.1) (by decide) rfl (c_leads wl1 h255 h255 wq1) rfl rfl (Nat.le_of_ble_eq_true rfl) ⟨Nat.le_of_ble_eq_true rfl, Nat.le_of_ble_eq_true rfl⟩ ⟨by show _ ≤ 600086; omega, by show _ ≤ 7301442; omega⟩ ?_
    intro v290 s290 q290
    obtain ⟨-, -, z2, bad2, -, hdn2, hres2⟩ := q290
    rw [z2 lf]
    obtain rfl : v290 = some (.int (-1)) := by
      rcases hres2 with ⟨s9, -, -, e1, e2⟩ | ⟨e, -⟩
      · exfalso
        have := (hdn2.1 s9 e1).1
        unfold wW at this
        rw [e2] at this
        cases this
      · exact e
    refine zw_iconst (x := -1) dL_law_293 rfl ?_
    refine zw_icmpne (tgt := 335) dL_law_294 (by decide) (fun c294 => ?_) (fun c294 => ?_)
    · exact absurd rfl c294
    · refine zw_iload dL_law_297 rfl ?_
      refine zw_iflt (tgt := 337) dL_law_299 (by decide) (fun c299 => ?_) (fun c299 => ?_)
      · exact absurd c299 (nI_pos (by omega))
      · refine zw_aload_n dL_law_302 rfl ?_
        refine zw_iload dL_law_303 rfl ?_
        refine zw_iload dL_law_305 rfl ?_
        refine zw_callV (y' := zmX5_holds) dL_law_307 zlL_101 zmX5_holds_ok (xk_1 wl1.1.1) (by decide) rfl (c_X5_holds wl1.1.1 (wl1.1.st hs).1 (wl1.1.st hs).2.1 hs (nf := 8) wl1.2.2.1 (by decide) h270) rfl rfl (Nat.le_of_ble_eq_true rfl) ⟨Nat.le_of_ble_eq_true rfl, Nat.le_of_ble_eq_true rfl⟩ ⟨by show _ ≤ 600086; omega, by show _ ≤ 7301442; omega⟩ ?_
        intro v307 s307 q307
        obtain ⟨rfl, z307⟩ := q307
        rw [z307]
        clear z307
        rw [hps]
        refine zw_ifeq (tgt := 335) dL_law_310 (by decide) (fun c310 => ?_) (fun c310 => ?_)
        · exact absurd c310 (by decide)
        · refine zw_aload_n dL_law_313 rfl ?_
          refine zw_iload dL_law_314 rfl ?_
          refine zw_iload dL_law_316 rfl ?_
          refine zw_callV (y' := zmX5_holds) dL_law_318 zlL_101 zmX5_holds_ok (xk_1 wl1.1.1) (by decide) rfl (c_X5_holds wl1.1.1 (wl1.1.st hs).1 (wl1.1.st hs).2.1 hs (nf := 8) wl1.2.2.1 (by decide) h255) rfl rfl (Nat.le_of_ble_eq_true rfl) ⟨Nat.le_of_ble_eq_true rfl, Nat.le_of_ble_eq_true rfl⟩ ⟨by show _ ≤ 600086; omega, by show _ ≤ 7301442; omega⟩ ?_
          intro v318 s318 q318
          obtain ⟨rfl, z318⟩ := q318
          rw [z318]
          clear z318
          rw [hqs]
          refine zw_ifne (tgt := 335) dL_law_321 (by decide) (fun c321 => ?_) (fun c321 => ?_)
          · exact absurd rfl c321
          · refine zw_aload_n dL_law_324 rfl ?_
            refine zw_iload dL_law_325 rfl ?_
            refine zw_iload dL_law_327 rfl ?_
            refine zw_callV (y' := zmX5_isBad) dL_law_329 zlL_105 zmX5_isBad_ok (xk_1 wl1.1.1) (by decide) rfl (c_isBad wl1 h255 hs wq1) rfl rfl (Nat.le_of_ble_eq_true rfl) ⟨Nat.le_of_ble_eq_true rfl, Nat.le_of_ble_eq_true rfl⟩ ⟨by show _ ≤ 600086; omega, by show _ ≤ 7301442; omega⟩ ?_
            intro v329 s329 q329
            obtain ⟨-, -, z3, bad3, hb3, -, rfl⟩ := q329
            have e3 : zb (bad3 s) = 1 := by
              rw [← hb3 s hs, z3 lf, hb s hs, hbs]
              rfl
            rw [e3, z3 lf]
            refine zw_ifne (tgt := 337) dL_law_332 (by decide) (fun c332 => ?_) (fun c332 => ?_)
            · refine zw_iload dL_law_337 rfl ?_
              refine zw_iflt (tgt := 513) dL_law_339 (by decide) (fun c339 => ?_) (fun c339 => ?_)
              · exact absurd c339 (nI_pos (by omega))
              · refine zw_loc (lc' := [(0, .ref 0), (1, .ref 1), (2, .ref 30), (3, .int (nI n)), (4, .ref fa), (5, .int (nI j255)), (7, .int (nI s))]) (zsub_cons rfl (zsub_cons rfl (zsub_cons rfl (zsub_cons rfl (zsub_cons rfl (zsub_cons rfl (zsub_cons rfl zsub_nil))))))) ?_
                exact lp_s3 wl1 h255 hs hws hwit (fun σ2 uc2 us2 hx2 hv1 hv2 => lp_r6 (wl1.x hx2) h255 h1 hv1 hv2 (((hx2.2 21 (by have := wl1.2.2.2.2.1.2.1; omega)).2.2.2.2 4 11).1.trans lf) (wq1.x hx2 wl1.2.2.2.2.1.2.1)) (by omega) (by omega)
            · exact absurd c332 (by decide)
  · refine zw_istore dL_law_283 (by decide) rfl ?_
    refine zw_aload_n dL_law_285 rfl ?_
    refine zw_iload dL_law_286 rfl ?_
    refine zw_iload dL_law_288 rfl ?_
    refine zw_callV (y' := zmX5_leads) dL_law_290 zlL_98 zmX5_leads_ok (xk_1 wl1.1.1) (by decide) rfl (c_leads wl1 h255 h255 wq1) rfl rfl (Nat.le_of_ble_eq_true rfl) ⟨Nat.le_of_ble_eq_true rfl, Nat.le_of_ble_eq_true rfl⟩ ⟨by show _ ≤ 600086; omega, by show _ ≤ 7301442; omega⟩ ?_
    intro v290 s290 q290
    obtain ⟨-, -, z2, bad2, -, hdn2, hres2⟩ := q290
    rw [z2 lf]
    obtain rfl : v290 = some (.int (-1)) := by
      rcases hres2 with ⟨s9, -, -, e1, e2⟩ | ⟨e, -⟩
      · exfalso
        have := (hdn2.1 s9 e1).1
        unfold wW at this
        rw [e2] at this
        cases this
      · exact e
    refine zw_iconst (x := -1) dL_law_293 rfl ?_
    refine zw_icmpne (tgt := 335) dL_law_294 (by decide) (fun c294 => ?_) (fun c294 => ?_)
    · exact absurd rfl c294
    · refine zw_iload dL_law_297 rfl ?_
      refine zw_iflt (tgt := 337) dL_law_299 (by decide) (fun c299 => ?_) (fun c299 => ?_)
      · refine zw_iload dL_law_337 rfl ?_
        refine zw_iflt (tgt := 513) dL_law_339 (by decide) (fun c339 => ?_) (fun c339 => ?_)
        · refine zw_loc (lc' := [(0, .ref 0), (1, .ref 1), (2, .ref 30), (3, .int (nI n)), (4, .ref fa), (5, .int (nI j255))]) (zsub_cons rfl (zsub_cons rfl (zsub_cons rfl (zsub_cons rfl (zsub_cons rfl (zsub_cons rfl zsub_nil)))))) ?_
          exact lp_r6 wl1 h255 h1 (by omega) (by omega) lf wq1
        · exact absurd (by decide) c339
      · exact absurd (by decide) c299
