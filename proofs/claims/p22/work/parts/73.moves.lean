/-! the law's build: the beginning of a move, and the loops -/
theorem d19 : ∀ j, j < 2 → 0 ≤ 1 + nI j ∧ 1 + nI j ≤ 9 := by decide
set_option maxHeartbeats 4000000 in
set_option maxRecDepth 100000 in
theorem lp_d2 {l : Launch} {σ0 : zS} {P V p many uc0 us0 : Nat} {ls G B : List Int32} {mvs : List (List hMv)} {mid : Nat → Nat → Nat} {ms : List hMv} {x8 : Int32} {Q : Option Value → zS → Prop} (bh0 : bH σ0 ls G B mvs) (hP : ls.length = P) (hP3 : P ≤ 3) (hV : G.length = V) (hV2 : V ≤ 2) (lo : lsOk ls) (go : gOk G B) (mo : mOk mvs V) (hpP : p < P) (hp : mvs[p]? = some ms) (hms : ms.length < 6) (hU : uc0 + 3 ≤ 100 ∧ us0 + 27 ≤ 1000) (K3 : ∀ (σ : zS) (o : hMv) (mid : Nat → Nat → Nat) (uc us : Nat), zC σ0 σ → bC σ ls G B (mvs.set p (ms ++ [o])) mid → iI σ (zn σ0) o.row → oMv V o → o.ds = 0 → o.gs = 0 → uc ≤ uc0 + 2 → us ≤ us0 + 21 → zAW l zmL_build { frames := 4, cells := 100, slots := 1000, locals := 94 } 366 [(0, .ref 1), (1, .ref 0), (2, .ref 30), (3, .int (nI P)), (4, .int (nI V)), (5, .int (nI p)), (6, .int (nI many)), (7, .int (nI ms.length)), (8, .int x8), (9, .ref (zn σ0))] [] σ uc us Q) (σ : zS) (f t : Nat) (d : Int32) (uc us : Nat) (cc : zC σ0 σ) (bc : bC σ ls G B mvs mid) (ir : iI σ (zn σ0) (hMv.row (oNew (nI f) (nI t) 0))) (hf : ∃ c, c ≤ 4 ∧ f < c ∧ t < c ∧ ls[p]? = some (nI c)) (hd : 0 ≤ d ∧ d ≤ 9) (hu1 : uc ≤ uc0 + 1) (hu2 : us ≤ us0 + 9) : zAW l zmL_build { frames := 4, cells := 100, slots := 1000, locals := 94 } 311 [(0, .ref 1), (1, .ref 0), (2, .ref 30), (3, .int (nI P)), (4, .int (nI V)), (5, .int (nI p)), (6, .int (nI many)), (7, .int (nI ms.length)), (8, .int x8)] [.int d, .int 2, .ref (zn σ0), .ref (zn σ0)] σ uc us Q := by
  have h30 : 30 < zn σ0 := by have := bh0.2.1; omega
  have h5 := mo.1
  have h6 : ∀ (q : Nat) (l : List hMv), mvs[q]? = some l → l.length ≤ 6 := fun q l hq => (mo.2 q l hq).1
  obtain ⟨c, c4, hfc, htc, ec⟩ := hf
  refine zw_iastore dL_build_311 ir.1 ir.2.1 (nI_10 (by unfold vp_in; decide) ir) ?_
  rw [show Int32.toNatClampNeg 2 = 2 from by decide]
  have ir : iI (zsI σ (zn σ0) 2 (d)) (zn σ0) (hMv.row (oNew (nI f) (nI t) d)) := ir.set 2 (d)
  have bc := bc.I (a := zn σ0) (i := 2) (x := d) (by omega)
  have cc := cc.In (a := zn σ0) (i := 2) (x := d) (Nat.le_refl _)
  generalize zsI σ (zn σ0) 2 (d) = σa at ir bc cc ⊢
  refine zw_dup dL_build_312 rfl ?_
  refine zw_iconst (x := 3) dL_build_313 rfl ?_
  refine zw_iconst (x := 0) dL_build_314 rfl ?_
  refine zw_iastore dL_build_315 ir.1 ir.2.1 (nI_10 (by unfold vp_in; decide) ir) ?_
  rw [show Int32.toNatClampNeg 3 = 3 from by decide]
  have ir : iI (zsI σa (zn σ0) 3 (0)) (zn σ0) (hMv.row (oNew (nI f) (nI t) d)) := ir.set 3 (0)
  have bc := bc.I (a := zn σ0) (i := 3) (x := 0) (by omega)
  have cc := cc.In (a := zn σ0) (i := 3) (x := 0) (Nat.le_refl _)
  generalize zsI σa (zn σ0) 3 (0) = σb at ir bc cc ⊢
  refine zw_dup dL_build_316 rfl ?_
  refine zw_iconst (x := 4) dL_build_317 rfl ?_
  refine zw_iconst (x := 0) dL_build_318 rfl ?_
  refine zw_iastore dL_build_319 ir.1 ir.2.1 (nI_10 (by unfold vp_in; decide) ir) ?_
  rw [show Int32.toNatClampNeg 4 = 4 from by decide]
  have ir : iI (zsI σb (zn σ0) 4 (0)) (zn σ0) (hMv.row (oNew (nI f) (nI t) d)) := ir.set 4 (0)
  have bc := bc.I (a := zn σ0) (i := 4) (x := 0) (by omega)
  have cc := cc.In (a := zn σ0) (i := 4) (x := 0) (Nat.le_refl _)
  generalize zsI σb (zn σ0) 4 (0) = σc at ir bc cc ⊢
  refine zw_dup dL_build_320 rfl ?_
  refine zw_iconst (x := 5) dL_build_321 rfl ?_
  refine zw_iconst (x := 0) dL_build_322 rfl ?_
  refine zw_iastore dL_build_323 ir.1 ir.2.1 (nI_10 (by unfold vp_in; decide) ir) ?_
  rw [show Int32.toNatClampNeg 5 = 5 from by decide]
  have ir : iI (zsI σc (zn σ0) 5 (0)) (zn σ0) (hMv.row (oNew (nI f) (nI t) d)) := ir.set 5 (0)
  have bc := bc.I (a := zn σ0) (i := 5) (x := 0) (by omega)
  have cc := cc.In (a := zn σ0) (i := 5) (x := 0) (Nat.le_refl _)
  generalize zsI σc (zn σ0) 5 (0) = σd at ir bc cc ⊢
  refine zw_dup dL_build_324 rfl ?_
  refine zw_bipush (x := 6) dL_build_325 rfl ?_
  refine zw_iconst (x := 0) dL_build_327 rfl ?_
  refine zw_iastore dL_build_328 ir.1 ir.2.1 (nI_10 (by unfold vp_in; decide) ir) ?_
  rw [show Int32.toNatClampNeg 6 = 6 from by decide]
  have ir : iI (zsI σd (zn σ0) 6 (0)) (zn σ0) (hMv.row (oNew (nI f) (nI t) d)) := ir.set 6 (0)
  have bc := bc.I (a := zn σ0) (i := 6) (x := 0) (by omega)
  have cc := cc.In (a := zn σ0) (i := 6) (x := 0) (Nat.le_refl _)
  generalize zsI σd (zn σ0) 6 (0) = σe at ir bc cc ⊢
  refine zw_dup dL_build_329 rfl ?_
  refine zw_bipush (x := 7) dL_build_330 rfl ?_
  refine zw_iconst (x := 0) dL_build_332 rfl ?_
  refine zw_iastore dL_build_333 ir.1 ir.2.1 (nI_10 (by unfold vp_in; decide) ir) ?_
  rw [show Int32.toNatClampNeg 7 = 7 from by decide]
  have ir : iI (zsI σe (zn σ0) 7 (0)) (zn σ0) (hMv.row (oNew (nI f) (nI t) d)) := ir.set 7 (0)
  have bc := bc.I (a := zn σ0) (i := 7) (x := 0) (by omega)
  have cc := cc.In (a := zn σ0) (i := 7) (x := 0) (Nat.le_refl _)
  generalize zsI σe (zn σ0) 7 (0) = σf at ir bc cc ⊢
  refine zw_dup dL_build_334 rfl ?_
  refine zw_bipush (x := 8) dL_build_335 rfl ?_
  refine zw_iconst (x := 0) dL_build_337 rfl ?_
  refine zw_iastore dL_build_338 ir.1 ir.2.1 (nI_10 (by unfold vp_in; decide) ir) ?_
  rw [show Int32.toNatClampNeg 8 = 8 from by decide]
  have ir : iI (zsI σf (zn σ0) 8 (0)) (zn σ0) (hMv.row (oNew (nI f) (nI t) d)) := ir.set 8 (0)
  have bc := bc.I (a := zn σ0) (i := 8) (x := 0) (by omega)
  have cc := cc.In (a := zn σ0) (i := 8) (x := 0) (Nat.le_refl _)
  generalize zsI σf (zn σ0) 8 (0) = σg at ir bc cc ⊢
  refine zw_astore dL_build_339 (by decide) rfl ?_
  refine zw_aload_n dL_build_341 rfl ?_
  refine zw_iload dL_build_342 rfl ?_
  refine zw_aload dL_build_344 rfl ?_
  refine zw_iconst (x := 0) dL_build_346 rfl ?_
  refine zw_iaload dL_build_347 ir.1 (nI_10 (by unfold vp_in; decide) ir) ?_
  rw [hrow_0 ir]
  refine zw_aload dL_build_348 rfl ?_
  refine zw_iconst (x := 1) dL_build_350 rfl ?_
  refine zw_iaload dL_build_351 ir.1 (nI_10 (by unfold vp_in; decide) ir) ?_
  rw [hrow_1 ir]
  refine zw_aload dL_build_352 rfl ?_
  refine zw_iconst (x := 2) dL_build_354 rfl ?_
  refine zw_iaload dL_build_355 ir.1 (nI_10 (by unfold vp_in; decide) ir) ?_
  rw [hrow_2 ir]
  have el := bc.2.2.1.1 p _ ec
  obtain ⟨e4, -⟩ := bc.2.2.2.1 p ms hp
  refine zw_wf (fun hw => ?_)
  refine zw_callV (y' := zmX5_addMove) dL_build_356 zlL_45 zmX5_addMove_ok (xk_1 bc.1.1) (by decide) rfl (c_X5_addMove bc.1.1 bc.2.1.1 (by omega) (show p < ls.length by omega) e4 (by omega) ⟨show 0 ≤ nI f from nI_pos' (by omega), show nI f < zI σg 3 p by rw [el]; exact nI_lt hfc (by omega)⟩ ⟨show 0 ≤ nI t from nI_pos' (by omega), show nI t < zI σg 3 p by rw [el]; exact nI_lt htc (by omega)⟩ hd) rfl rfl (Nat.le_of_ble_eq_true rfl) ⟨Nat.le_of_ble_eq_true rfl, Nat.le_of_ble_eq_true rfl⟩ ⟨by show _ ≤ 100; omega, by show _ ≤ 1000; omega⟩ ?_
  intro v356 s356 q356
  obtain ⟨rfl, z356⟩ := q356
  have bc := bC_move (f := nI f) (t := nI t) (d := d) bc hw hp h6
  have c2 := zC.Nm (σ := σg) (p := p) (m := ms.length) (f := nI f) (t := nI t) (d := d)
  rw [← z356] at bc c2
  have ir : iI s356 (zn σ0) (hMv.row (oNew (nI f) (nI t) d)) := ir.c (by omega) c2
  have cc := cc.tr c2
  refine zw_iload dL_build_359 rfl ?_
  refine zw_icmpeq (tgt := 366) dL_build_361 (by decide) (fun c361 => ?_) (fun c361 => ?_)
  · exact zw_loc (lc' := [(0, .ref 1), (1, .ref 0), (2, .ref 30), (3, .int (nI P)), (4, .int (nI V)), (5, .int (nI p)), (6, .int (nI many)), (7, .int (nI ms.length)), (8, .int x8), (9, .ref (zn σ0))]) (zsub_cons rfl (zsub_cons rfl (zsub_cons rfl (zsub_cons rfl (zsub_cons rfl (zsub_cons rfl (zsub_cons rfl (zsub_cons rfl (zsub_cons rfl (zsub_cons rfl zsub_nil)))))))))) (K3 s356 (oNew (nI f) (nI t) d) _ _ _ cc bc ir (oMv.nw (by omega) (by omega) hd.1) rfl rfl (by omega) (by omega))
  · exact absurd rfl c361
set_option maxHeartbeats 4000000 in
set_option maxRecDepth 100000 in
theorem lp_d1 {l : Launch} {σ : zS} {P V p many uc0 us0 : Nat} {ls G B : List Int32} {mvs : List (List hMv)} {mid : Nat → Nat → Nat} {ms : List hMv} {Q : Option Value → zS → Prop} (bh0 : bH σ ls G B mvs) (hP : ls.length = P) (hP3 : P ≤ 3) (hV : G.length = V) (hV2 : V ≤ 2) (lo : lsOk ls) (go : gOk G B) (mo : mOk mvs V) (hpP : p < P) (hp : mvs[p]? = some ms) (hms : ms.length < 6) (hU : uc0 + 3 ≤ 100 ∧ us0 + 27 ≤ 1000) (KD : ∀ (σ : zS) (o : hMv) (mid : Nat → Nat → Nat) (uc us : Nat), bC σ ls G B (mvs.set p (ms ++ [o])) mid → bH σ ls G B (mvs.set p (ms ++ [o])) → oMv V o → uc ≤ uc0 + 3 → us ≤ us0 + 27 → zAW l zmL_build { frames := 4, cells := 100, slots := 1000, locals := 94 } 219 [(0, .ref 1), (1, .ref 0), (2, .ref 30), (3, .int (nI P)), (4, .int (nI V)), (5, .int (nI p)), (6, .int (nI many)), (7, .int (nI (ms.length + 1)))] [] σ uc us Q) (bc : bC σ ls G B mvs mid) (hm : ms.length < many) (hmany : many ≤ 6) (uc us : Nat) (hu1 : uc ≤ uc0) (hu2 : us ≤ us0) : zAW l zmL_build { frames := 4, cells := 100, slots := 1000, locals := 94 } 219 [(0, .ref 1), (1, .ref 0), (2, .ref 30), (3, .int (nI P)), (4, .int (nI V)), (5, .int (nI p)), (6, .int (nI many)), (7, .int (nI ms.length))] [] σ uc us Q := by
  refine zw_wf (fun hw => ?_)
  have bh := bh0
  have h30 : 30 < zn σ := by have := bh0.2.1; omega
  refine zw_iload dL_build_219 rfl ?_
  refine zw_iload dL_build_221 rfl ?_
  refine zw_icmpge (tgt := 561) dL_build_223 (by decide) (fun c223 => ?_) (fun c223 => ?_)
  · exact absurd c223 (nI_ge hm (by omega))
  · refine zw_aload_n dL_build_226 rfl ?_
    refine zw_iconst (x := 4) dL_build_227 rfl ?_
    refine zw_iload dL_build_228 rfl ?_
    refine zw_iconst (x := 5) dL_build_230 rfl ?_
    refine zw_iload dL_build_231 rfl ?_
    refine zw_imul dL_build_233 ?_
    rw [show (5 : Int32) * nI p = nI (5 * p) from pk_mul 5 p]
    refine zw_iadd dL_build_234 ?_
    rw [nI_add]
    refine zw_bipush (x := 12) dL_build_235 rfl ?_
    refine zw_irem dL_build_237 (by decide) ?_
    rw [show nI (ms.length + 5 * p) - nI (ms.length + 5 * p) / 12 * 12 = nI ((ms.length + 5 * p) % 12) from pk_rem (d := 12) (by omega) (by decide) (by decide)]
    refine zw_iadd dL_build_238 ?_
    rw [show (4 : Int32) + nI ((ms.length + 5 * p) % 12) = nI (4 + (ms.length + 5 * p) % 12) from nI_add 4 _]
    refine zw_callS (y' := zmL_cell) dL_build_239 zlL_12 zmL_cell_ok (c_L_cell hw.2.1 bc.1.2.2.2 (k := 4 + (ms.length + 5 * p) % 12) (by omega)) rfl rfl (Nat.le_of_ble_eq_true rfl) ⟨Nat.le_of_ble_eq_true rfl, Nat.le_of_ble_eq_true rfl⟩ ⟨by show _ ≤ 100; omega, by show _ ≤ 1000; omega⟩ ?_
    intro v239 s239 q239
    obtain ⟨⟨x239, rfl⟩, z239⟩ := q239
    rw [z239]
    clear z239
    refine zw_iload dL_build_242 rfl ?_
    refine zw_ishr dL_build_244 ?_
    refine zw_istore dL_build_245 (by decide) rfl ?_
    refine zw_bipush (x := 9) dL_build_247 rfl ?_
    refine zw_newI (N := 9) dL_build_249 rfl (Nat.le_of_ble_eq_true rfl) ⟨by show _ ≤ 100; omega, by show _ ≤ 1000; omega⟩ ?_
    have x1 : zX σ (znA1 σ 0 9) := (zX.rf σ).A1 0 9
    have ir := iI_new9 (σ := σ) (by omega)
    have bc := bc.x hw x1
    have cc : zC σ (znA1 σ 0 9) := x1.c
    generalize znA1 σ 0 9 = σa at x1 ir bc cc ⊢
    have bh := bh0.c cc
    obtain ⟨c, c1, c4, ec⟩ := lo p (by omega)
    refine zw_dup dL_build_251 rfl ?_
    refine zw_iconst (x := 0) dL_build_252 rfl ?_
    refine zw_iload dL_build_253 rfl ?_
    refine zw_aload_n dL_build_255 rfl ?_
    obtain ⟨la, gl, l30, il⟩ := bh.2.2.1
    refine zw_getR dL_build_256 zfL_22 rfl bh.1 (by decide) gl ?_
    refine zw_iload dL_build_259 rfl ?_
    refine zw_iaload dL_build_261 il.1 (zin_of il.2.2.2.1 (vp_in_nI (show p < ls.length by omega) (by omega))) ?_
    rw [nI_clamp (show p < 2 ^ 31 by omega), il.2.2.2.2 p _ ec]
    refine zw_callS (y' := zmL_below) dL_build_262 zlL_18 zmL_below_ok (c_L_below (n := c) (by omega) (by omega)) rfl rfl (Nat.le_of_ble_eq_true rfl) ⟨Nat.le_of_ble_eq_true rfl, Nat.le_of_ble_eq_true rfl⟩ ⟨by show _ ≤ 100; omega, by show _ ≤ 1000; omega⟩ ?_
    intro v262 s262 q262
    obtain ⟨⟨j262, h262, rfl⟩, z262⟩ := q262
    rw [z262]
    clear z262
    refine zw_iastore dL_build_265 ir.1 ir.2.1 (nI_10 (by unfold vp_in; decide) ir) ?_
    rw [show Int32.toNatClampNeg 0 = 0 from by decide]
    have ir : iI (zsI σa (zn σ) 0 (nI j262)) (zn σ) (hMv.row (oNew (nI j262) 0 0)) := ir.set 0 (nI j262)
    have bc := bc.I (a := zn σ) (i := 0) (x := nI j262) (by omega)
    have cc := cc.In (a := zn σ) (i := 0) (x := nI j262) (Nat.le_refl _)
    generalize zsI σa (zn σ) 0 (nI j262) = σb at ir bc cc ⊢
    have bh := bh0.c cc
    refine zw_dup dL_build_266 rfl ?_
    refine zw_iconst (x := 1) dL_build_267 rfl ?_
    refine zw_iload dL_build_268 rfl ?_
    refine zw_iconst (x := 2) dL_build_270 rfl ?_
    refine zw_ishr dL_build_271 ?_
    refine zw_aload_n dL_build_272 rfl ?_
    obtain ⟨la, gl, l30, il⟩ := bh.2.2.1
    refine zw_getR dL_build_273 zfL_22 rfl bh.1 (by decide) gl ?_
    refine zw_iload dL_build_276 rfl ?_
    refine zw_iaload dL_build_278 il.1 (zin_of il.2.2.2.1 (vp_in_nI (show p < ls.length by omega) (by omega))) ?_
    rw [nI_clamp (show p < 2 ^ 31 by omega), il.2.2.2.2 p _ ec]
    refine zw_callS (y' := zmL_below) dL_build_279 zlL_18 zmL_below_ok (c_L_below (n := c) (by omega) (by omega)) rfl rfl (Nat.le_of_ble_eq_true rfl) ⟨Nat.le_of_ble_eq_true rfl, Nat.le_of_ble_eq_true rfl⟩ ⟨by show _ ≤ 100; omega, by show _ ≤ 1000; omega⟩ ?_
    intro v279 s279 q279
    obtain ⟨⟨j279, h279, rfl⟩, z279⟩ := q279
    rw [z279]
    clear z279
    refine zw_iastore dL_build_282 ir.1 ir.2.1 (nI_10 (by unfold vp_in; decide) ir) ?_
    rw [show Int32.toNatClampNeg 1 = 1 from by decide]
    have ir : iI (zsI σb (zn σ) 1 (nI j279)) (zn σ) (hMv.row (oNew (nI j262) (nI j279) 0)) := ir.set 1 (nI j279)
    have bc := bc.I (a := zn σ) (i := 1) (x := nI j279) (by omega)
    have cc := cc.In (a := zn σ) (i := 1) (x := nI j279) (Nat.le_refl _)
    generalize zsI σb (zn σ) 1 (nI j279) = σc at ir bc cc ⊢
    refine zw_dup dL_build_283 rfl ?_
    refine zw_iconst (x := 2) dL_build_284 rfl ?_
    refine zw_iload dL_build_285 rfl ?_
    refine zw_iconst (x := 4) dL_build_287 rfl ?_
    refine zw_ishr dL_build_288 ?_
    refine zw_iconst (x := 3) dL_build_289 rfl ?_
    refine zw_callS (y' := zmL_below) dL_build_290 zlL_18 zmL_below_ok (c_L_below (n := 3) (by omega) (by omega)) rfl rfl (Nat.le_of_ble_eq_true rfl) ⟨Nat.le_of_ble_eq_true rfl, Nat.le_of_ble_eq_true rfl⟩ ⟨by show _ ≤ 100; omega, by show _ ≤ 1000; omega⟩ ?_
    intro v290 s290 q290
    obtain ⟨⟨j290, h290, rfl⟩, z290⟩ := q290
    rw [z290]
    clear z290
    refine zw_ifne (tgt := 310) dL_build_293 (by decide) (fun c293 => ?_) (fun c293 => ?_)
    · refine zw_iconst (x := 0) dL_build_310 rfl ?_
      refine zw_loc (lc' := [(0, .ref 1), (1, .ref 0), (2, .ref 30), (3, .int (nI P)), (4, .int (nI V)), (5, .int (nI p)), (6, .int (nI many)), (7, .int (nI ms.length)), (8, .int _)]) (zsub_cons rfl (zsub_cons rfl (zsub_cons rfl (zsub_cons rfl (zsub_cons rfl (zsub_cons rfl (zsub_cons rfl (zsub_cons rfl (zsub_cons rfl zsub_nil))))))))) (lp_d2 (uc0 := uc0) (us0 := us0) bh0 hP hP3 hV hV2 lo go mo hpP hp hms hU ?_ σc j262 j279 (0) _ _ cc bc ir ⟨c, c4, h262, h279, ec⟩ ⟨by decide, by decide⟩ (by omega) (by omega))
      intro σ9 o mid9 uc9 us9 cc9 bc9 ir9 ho9 hds9 hgs9 hv1 hv2
      refine lp_d3 (uc0 := uc0) (us0 := us0) bh0 hP hP3 hV hV2 lo go mo hpP hp hms hU ?_ σ9 o uc9 us9 cc9 bc9 ir9 ho9 hds9 hgs9 hv1 hv2
      intro σ8 o8 uc8 us8 cc8 bc8 ir8 ho8 hds8 hv3 hv4
      refine lp_d4 (uc0 := uc0) (us0 := us0) bh0 hP hP3 hV hV2 lo go mo hpP hp hms hU ?_ σ8 o8 uc8 us8 cc8 bc8 ir8 ho8 hds8 hv3 hv4
      intro σ7 o7 uc7 us7 cc7 bc7 ir7 ho7 hv5 hv6
      exact lp_d5 (x8 := 0) (uc0 := uc0) (us0 := us0) bh0 hP hP3 hV hV2 lo go mo hpP hp hms hU (fun σ6 o6 uc6 us6 b6 c6 d6 e6 f6 => KD σ6 o6 mid9 uc6 us6 b6 c6 d6 e6 f6) σ7 o7 uc7 us7 cc7 bc7 ir7 ho7 hv5 hv6
    · refine zw_iconst (x := 1) dL_build_296 rfl ?_
      refine zw_iload dL_build_297 rfl ?_
      refine zw_bipush (x := 6) dL_build_299 rfl ?_
      refine zw_ishr dL_build_301 ?_
      refine zw_iconst (x := 2) dL_build_302 rfl ?_
      refine zw_callS (y' := zmL_below) dL_build_303 zlL_18 zmL_below_ok (c_L_below (n := 2) (by omega) (by omega)) rfl rfl (Nat.le_of_ble_eq_true rfl) ⟨Nat.le_of_ble_eq_true rfl, Nat.le_of_ble_eq_true rfl⟩ ⟨by show _ ≤ 100; omega, by show _ ≤ 1000; omega⟩ ?_
      intro v303 s303 q303
      obtain ⟨⟨j303, h303, rfl⟩, z303⟩ := q303
      rw [z303]
      clear z303
      refine zw_iadd dL_build_306 ?_
      refine zw_goto (tgt := 311) dL_build_307 (by decide) ?_
      refine zw_loc (lc' := [(0, .ref 1), (1, .ref 0), (2, .ref 30), (3, .int (nI P)), (4, .int (nI V)), (5, .int (nI p)), (6, .int (nI many)), (7, .int (nI ms.length)), (8, .int _)]) (zsub_cons rfl (zsub_cons rfl (zsub_cons rfl (zsub_cons rfl (zsub_cons rfl (zsub_cons rfl (zsub_cons rfl (zsub_cons rfl (zsub_cons rfl zsub_nil))))))))) (lp_d2 (uc0 := uc0) (us0 := us0) bh0 hP hP3 hV hV2 lo go mo hpP hp hms hU ?_ σc j262 j279 (1 + nI j303) _ _ cc bc ir ⟨c, c4, h262, h279, ec⟩ (d19 j303 h303) (by omega) (by omega))
      intro σ9 o mid9 uc9 us9 cc9 bc9 ir9 ho9 hds9 hgs9 hv1 hv2
      refine lp_d3 (uc0 := uc0) (us0 := us0) bh0 hP hP3 hV hV2 lo go mo hpP hp hms hU ?_ σ9 o uc9 us9 cc9 bc9 ir9 ho9 hds9 hgs9 hv1 hv2
      intro σ8 o8 uc8 us8 cc8 bc8 ir8 ho8 hds8 hv3 hv4
      refine lp_d4 (uc0 := uc0) (us0 := us0) bh0 hP hP3 hV hV2 lo go mo hpP hp hms hU ?_ σ8 o8 uc8 us8 cc8 bc8 ir8 ho8 hds8 hv3 hv4
      intro σ7 o7 uc7 us7 cc7 bc7 ir7 ho7 hv5 hv6
      exact lp_d5 (x8 := 0) (uc0 := uc0) (us0 := us0) bh0 hP hP3 hV hV2 lo go mo hpP hp hms hU (fun σ6 o6 uc6 us6 b6 c6 d6 e6 f6 => KD σ6 o6 mid9 uc6 us6 b6 c6 d6 e6 f6) σ7 o7 uc7 us7 cc7 bc7 ir7 ho7 hv5 hv6
set_option maxHeartbeats 4000000 in
set_option maxRecDepth 100000 in
theorem lp_d {l : Launch} {P V : Nat} {ls G B : List Int32} {Q : Option Value → zS → Prop} (hP : ls.length = P) (hP3 : P ≤ 3) (hV : G.length = V) (hV2 : V ≤ 2) (lo : lsOk ls) (go : gOk G B) {p many U0 S0 : Nat} (hpP : p < P) (hmany : many ≤ 6) (hU : U0 + 18 ≤ 100 ∧ S0 + 162 ≤ 1000) (KE : ∀ (σ : zS) (mvs : List (List hMv)) (mid : Nat → Nat → Nat) (uc us : Nat), bC σ ls G B mvs mid → bH σ ls G B mvs → mOk mvs V → (∀ q, p < q → q < 5 → mvs[q]? = some []) → uc ≤ U0 + 18 → us ≤ S0 + 162 → zAW l zmL_build { frames := 4, cells := 100, slots := 1000, locals := 94 } 561 [(0, .ref 1), (1, .ref 0), (2, .ref 30), (3, .int (nI P)), (4, .int (nI V)), (5, .int (nI p))] [] σ uc us Q) :
    ∀ (d : Nat) (σ : zS) (mvs : List (List hMv)) (ms : List hMv) (mid : Nat → Nat → Nat) (uc us : Nat), ms.length + d = many → mvs[p]? = some ms → bC σ ls G B mvs mid → bH σ ls G B mvs → mOk mvs V → (∀ q, p < q → q < 5 → mvs[q]? = some []) → uc ≤ U0 + 3 * ms.length → us ≤ S0 + 27 * ms.length → zAW l zmL_build { frames := 4, cells := 100, slots := 1000, locals := 94 } 219 [(0, .ref 1), (1, .ref 0), (2, .ref 30), (3, .int (nI P)), (4, .int (nI V)), (5, .int (nI p)), (6, .int (nI many)), (7, .int (nI ms.length))] [] σ uc us Q := by
  intro d
  induction d with
  | zero =>
    intro σ mvs ms mid uc us hd hp bc bh mo hno hu1 hu2
    refine zw_iload dL_build_219 rfl ?_
    refine zw_iload dL_build_221 rfl ?_
    refine zw_icmpge (tgt := 561) dL_build_223 (by decide) (fun c223 => ?_) (fun c223 => ?_)
    · exact zw_loc (lc' := [(0, .ref 1), (1, .ref 0), (2, .ref 30), (3, .int (nI P)), (4, .int (nI V)), (5, .int (nI p))]) (zsub_cons rfl (zsub_cons rfl (zsub_cons rfl (zsub_cons rfl (zsub_cons rfl (zsub_cons rfl zsub_nil)))))) (KE σ mvs mid _ _ bc bh mo hno (by omega) (by omega))
    · exact absurd (nI_le (show many ≤ ms.length by omega) (by omega)) c223
  | succ d ih =>
    intro σ mvs ms mid uc us hd hp bc bh mo hno hu1 hu2
    have h5 := mo.1
    refine lp_d1 (uc0 := uc) (us0 := us) bh hP hP3 hV hV2 lo go mo hpP hp (by omega) ⟨by omega, by omega⟩ ?_ bc (by omega) hmany uc us (Nat.le_refl _) (Nat.le_refl _)
    intro σ2 o mid2 uc2 us2 bc2 bh2 ho hu3 hu4
    have e : (ms ++ [o]).length = ms.length + 1 := by rw [List.length_append]; rfl
    have m2 : mOk (mvs.set p (ms ++ [o])) V := mo.set (by rw [e]; omega) (fun x hx => by
      rcases List.mem_append.mp hx with z | z
      · exact (mo.2 p ms hp).2 x z
      · rw [List.mem_singleton.mp z]; exact ho)
    rw [← e]
    exact ih σ2 (mvs.set p (ms ++ [o])) (ms ++ [o]) mid2 uc2 us2 (by rw [e]; omega) (by rw [List.getElem?_set, if_pos rfl, if_pos (by omega)]) bc2 bh2 m2 (fun q h1 h2 => by rw [List.getElem?_set, if_neg (by omega)]; exact hno q h1 h2) (by rw [e]; omega) (by rw [e]; omega)
set_option maxHeartbeats 4000000 in
set_option maxRecDepth 100000 in
theorem lp_c {l : Launch} {P V : Nat} {ls G B : List Int32} {Q : Option Value → zS → Prop} (hP : ls.length = P) (hP3 : P ≤ 3) (hV : G.length = V) (hV2 : V ≤ 2) (lo : lsOk ls) (go : gOk G B) (KF : ∀ (σ : zS) (mvs : List (List hMv)) (mid : Nat → Nat → Nat), bC σ ls G B mvs mid → bH σ ls G B mvs → mOk mvs V → Q (some (.ref 30)) σ) :
    ∀ (d p : Nat) (σ : zS) (mvs : List (List hMv)) (mid : Nat → Nat → Nat) (uc us : Nat), p + d = P → bC σ ls G B mvs mid → bH σ ls G B mvs → mOk mvs V → (∀ q, p ≤ q → q < 5 → mvs[q]? = some []) → uc ≤ 40 + 18 * p → us ≤ 150 + 162 * p → zAW l zmL_build { frames := 4, cells := 100, slots := 1000, locals := 94 } 191 [(0, .ref 1), (1, .ref 0), (2, .ref 30), (3, .int (nI P)), (4, .int (nI V)), (5, .int (nI p))] [] σ uc us Q := by
  intro d
  induction d with
  | zero =>
    intro p σ mvs mid uc us hd bc bh mo hno hu1 hu2
    refine zw_iload dL_build_191 rfl ?_
    refine zw_iload_n dL_build_193 rfl ?_
    refine zw_icmpge (tgt := 567) dL_build_194 (by decide) (fun c194 => ?_) (fun c194 => ?_)
    · refine zw_aload_n dL_build_567 rfl ?_
      refine zw_aret dL_build_568 rfl (Or.inl ⟨_, rfl⟩) ?_
      exact KF σ mvs mid bc bh mo
    · exact absurd (nI_le (show P ≤ p by omega) (by omega)) c194
  | succ d ih =>
    intro p σ mvs mid uc us hd bc bh mo hno hu1 hu2
    refine zw_wf (fun hw => ?_)
    refine zw_iload dL_build_191 rfl ?_
    refine zw_iload_n dL_build_193 rfl ?_
    refine zw_icmpge (tgt := 567) dL_build_194 (by decide) (fun c194 => ?_) (fun c194 => ?_)
    · exact absurd c194 (nI_ge (show p < P by omega) (by omega))
    · refine zw_iconst (x := 1) dL_build_197 rfl ?_
      refine zw_aload_n dL_build_198 rfl ?_
      refine zw_iconst (x := 3) dL_build_199 rfl ?_
      refine zw_callS (y' := zmL_cell) dL_build_200 zlL_12 zmL_cell_ok (c_L_cell hw.2.1 bc.1.2.2.2 (k := 3) (by decide)) rfl rfl (Nat.le_of_ble_eq_true rfl) ⟨Nat.le_of_ble_eq_true rfl, Nat.le_of_ble_eq_true rfl⟩ ⟨by show _ ≤ 100; omega, by show _ ≤ 1000; omega⟩ ?_
      intro v200 s200 q200
      obtain ⟨⟨x200, rfl⟩, z200⟩ := q200
      rw [z200]
      clear z200
      refine zw_iconst (x := 4) dL_build_203 rfl ?_
      refine zw_iload dL_build_204 rfl ?_
      refine zw_imul dL_build_206 ?_
      refine zw_ishr dL_build_207 ?_
      refine zw_bipush (x := 6) dL_build_208 rfl ?_
      refine zw_callS (y' := zmL_below) dL_build_210 zlL_18 zmL_below_ok (c_L_below (n := 6) (by omega) (by omega)) rfl rfl (Nat.le_of_ble_eq_true rfl) ⟨Nat.le_of_ble_eq_true rfl, Nat.le_of_ble_eq_true rfl⟩ ⟨by show _ ≤ 100; omega, by show _ ≤ 1000; omega⟩ ?_
      intro v210 s210 q210
      obtain ⟨⟨j210, h210, rfl⟩, z210⟩ := q210
      rw [z210]
      clear z210
      refine zw_iadd dL_build_213 ?_
      rw [show (1 : Int32) + nI j210 = nI (j210 + 1) from by rw [Int32.add_comm, nI_1]]
      refine zw_istore dL_build_214 (by decide) rfl ?_
      refine zw_iconst (x := 0) dL_build_216 rfl ?_
      refine zw_istore dL_build_217 (by decide) rfl ?_
      refine zw_loc (lc' := [(0, .ref 1), (1, .ref 0), (2, .ref 30), (3, .int (nI P)), (4, .int (nI V)), (5, .int (nI p)), (6, .int (nI (j210 + 1))), (7, .int (nI ([] : List hMv).length))]) (zsub_cons rfl (zsub_cons rfl (zsub_cons rfl (zsub_cons rfl (zsub_cons rfl (zsub_cons rfl (zsub_cons rfl (zsub_cons rfl zsub_nil)))))))) (lp_d (many := j210 + 1) (U0 := uc) (S0 := us) hP hP3 hV hV2 lo go (by omega) (by omega) ⟨by omega, by omega⟩ ?_ (j210 + 1) σ mvs [] mid _ _ (Nat.zero_add _) (hno p (Nat.le_refl _) (by omega)) bc bh mo (fun q h1 h2 => hno q (by omega) h2) (by omega) (by omega))
      intro σ2 mvs2 mid2 uc2 us2 bc2 bh2 mo2 hno2 hu3 hu4
      refine zw_iinc dL_build_561 rfl (by decide) rfl ?_
      refine zw_goto (tgt := 191) dL_build_564 (by decide) ?_
      refine zw_loc (lc' := [(0, .ref 1), (1, .ref 0), (2, .ref 30), (3, .int (nI P)), (4, .int (nI V)), (5, .int (nI p + 1))]) (zsub_cons rfl (zsub_cons rfl (zsub_cons rfl (zsub_cons rfl (zsub_cons rfl (zsub_cons rfl zsub_nil)))))) ?_
      rw [nI_1]
      exact ih (p + 1) σ2 mvs2 mid2 uc2 us2 (by omega) bc2 bh2 mo2 (fun q h1 h2 => hno2 q (by omega) h2) (by omega) (by omega)
