/-! the law's build: a move chosen, told to the class and kept -/
theorem dn_b : ∀ k, k < 4 → -9 ≤ nI k - 1 ∧ nI k - 1 ≤ 9 := by decide
theorem gs_5 : ∀ j, j < 5 → nI j = 0 ∨ nI j = 1 ∨ nI j = 2 ∨ nI j = 3 ∨ nI j = 4 := by decide
theorem ds_3 : ∀ j, j < 3 → nI j = 0 ∨ nI j = 1 ∨ nI j = 2 := by decide
theorem oMv.gd {V v n : Nat} {j : Nat} {o : hMv} (h : oMv V o) (hj : j < 5) (hv : v < V) : oMv V (oGd o (nI j) v (nI n)) := by
  obtain ⟨h1, h2, -, -, h5⟩ := h
  exact ⟨h1, h2, fun _ => hv, gs_5 j hj, h5⟩
theorem oMv.dd {V v j k : Nat} {o : hMv} (h : oMv V o) (hj : j < 3) (hv : v < V) (hk : k < 4) : oMv V (oDd o (nI j) v (nI k - 1)) := by
  obtain ⟨h1, h2, h3, h4, -, -, -, h8⟩ := h
  exact ⟨h1, h2, h3, h4, ds_3 j hj, fun _ => hv, ⟨k, hk, rfl⟩, h8⟩
theorem oMv.nw {V f t : Nat} {d : Int32} (hf : f < 4) (ht : t < 4) (hd : 0 ≤ d) : oMv V (oNew (nI f) (nI t) d) :=
  ⟨⟨f, hf, rfl⟩, ⟨t, ht, rfl⟩, fun q => absurd rfl q, Or.inl rfl, Or.inl rfl, fun q => absurd rfl q, ⟨1, by decide, show (0 : Int32) = nI 1 - 1 from by decide⟩, hd⟩
theorem iI_new9 {σ : zS} (hp : 0 < zn σ) : iI (znA1 σ 0 9) (zn σ) (hMv.row (oNew 0 0 0)) := by
  refine ⟨by rw [zK_znA1, if_pos rfl], hp, Nat.lt_succ_self _, by rw [zL_znA1, if_pos rfl]; rfl, fun i x q => ?_⟩
  rw [zI_znA1, if_pos rfl]
  match i, q with
  | 0, q => exact Option.some.inj q
  | 1, q => exact Option.some.inj q
  | 2, q => exact Option.some.inj q
  | 3, q => exact Option.some.inj q
  | 4, q => exact Option.some.inj q
  | 5, q => exact Option.some.inj q
  | 6, q => exact Option.some.inj q
  | 7, q => exact Option.some.inj q
  | 8, q => exact Option.some.inj q
  | n + 9, q => cases q
set_option maxHeartbeats 4000000 in
set_option maxRecDepth 100000 in
theorem lp_d5 {l : Launch} {σ0 : zS} {P V p many uc0 us0 : Nat} {ls G B : List Int32} {mvs : List (List hMv)} {mid : Nat → Nat → Nat} {ms : List hMv} {x8 : Int32} {Q : Option Value → zS → Prop} (bh0 : bH σ0 ls G B mvs) (hP : ls.length = P) (hP3 : P ≤ 3) (hV : G.length = V) (hV2 : V ≤ 2) (lo : lsOk ls) (go : gOk G B) (mo : mOk mvs V) (hpP : p < P) (hp : mvs[p]? = some ms) (hms : ms.length < 6) (hU : uc0 + 3 ≤ 100 ∧ us0 + 27 ≤ 1000) (KD : ∀ (σ : zS) (o : hMv) (uc us : Nat), bC σ ls G B (mvs.set p (ms ++ [o])) mid → bH σ ls G B (mvs.set p (ms ++ [o])) → oMv V o → uc ≤ uc0 + 3 → us ≤ us0 + 27 → zAW l zmL_build { frames := 4, cells := 100, slots := 1000, locals := 94 } 219 [(0, .ref 1), (1, .ref 0), (2, .ref 30), (3, .int (nI P)), (4, .int (nI V)), (5, .int (nI p)), (6, .int (nI many)), (7, .int (nI (ms.length + 1)))] [] σ uc us Q) (σ : zS) (o : hMv) (uc us : Nat) (cc : zC σ0 σ) (bc : bC σ ls G B (mvs.set p (ms ++ [o])) mid) (ir : iI σ (zn σ0) o.row) (ho : oMv V o) (hu1 : uc ≤ uc0 + 2) (hu2 : us ≤ us0 + 21) : zAW l zmL_build { frames := 4, cells := 100, slots := 1000, locals := 94 } 536 [(0, .ref 1), (1, .ref 0), (2, .ref 30), (3, .int (nI P)), (4, .int (nI V)), (5, .int (nI p)), (6, .int (nI many)), (7, .int (nI ms.length)), (9, .ref (zn σ0))] [] σ uc us Q := by
  refine zw_wf (fun hw => ?_)
  have h30 : 30 < zn σ0 := by have := bh0.2.1; omega
  have bh := bh0.c cc
  have h5 := mo.1
  have el : (ms.map hMv.row).length = ms.length := List.length_map ..
  obtain ⟨gm, im⟩ := bh.2.2.2.2.2.1
  obtain ⟨b, eb, rb30, rb⟩ := im.2.2.2.2 p ms hp
  refine zw_aload_n dL_build_536 rfl ?_
  refine zw_getR dL_build_537 zfL_56 rfl bh.1 (by decide) gm ?_
  refine zw_iload dL_build_540 rfl ?_
  refine zw_aload_n dL_build_542 rfl ?_
  refine zw_getR dL_build_543 zfL_56 rfl bh.1 (by decide) gm ?_
  refine zw_iload dL_build_546 rfl ?_
  refine zw_aaload (t := 5) dL_build_548 im.1 rfl (by decide) (zin_of im.2.2.2.1 (vp_in_nI (show p < mvs.length by omega) (by omega))) ?_
  rw [nI_clamp (show p < 2 ^ 31 by omega), eb]
  refine zw_aload dL_build_549 rfl ?_
  refine zw_callS (y' := zmX6_more_) dL_build_551 zlL_60 zmX6_more__ok (c_X6_more_g (P := fun r xs => 30 < r ∧ iI σ r xs) (fun _ _ q => q.2) rb ⟨h30, ir⟩ (by omega)) rfl rfl (Nat.le_of_ble_eq_true rfl) ⟨Nat.le_of_ble_eq_true rfl, Nat.le_of_ble_eq_true rfl⟩ ⟨by show _ ≤ 100; omega, by show _ ≤ 1000; omega⟩ ?_
  intro v551 s551 q551
  obtain ⟨rfl, x551, n551, i551⟩ := q551
  have bc := bc.x hw x551
  have h31 : 30 < zn σ := by have := bh.2.1; omega
  have bh := bh.c x551.c
  have rb2 : rH s551 (zn σ) (ms ++ [o]) := ⟨h31, by rw [List.map_append]; exact i551.mono (fun r xs q => ⟨q.1, q.2.x x551⟩)⟩
  have im2 := bh.2.2.2.2.2.1.2
  refine zw_aastoreA (t := 5) (tv := 4) (v := zn σ) dL_build_554 im2.1 (by decide) rfl zno_4 rb2.2.1 rb2.2.2.1 (by decide) (zin_of im2.2.2.2.1 (vp_in_nI (show p < mvs.length by omega) (by omega))) ?_
  rw [nI_clamp (show p < 2 ^ 31 by omega)]
  have bh := bh.R (p := p) (by omega) rb2
  have bc := bc.R (p := p) (x := some (zn σ))
  refine zw_iinc dL_build_555 rfl (by decide) rfl ?_
  refine zw_goto (tgt := 219) dL_build_558 (by decide) ?_
  refine zw_loc (lc' := [(0, .ref 1), (1, .ref 0), (2, .ref 30), (3, .int (nI P)), (4, .int (nI V)), (5, .int (nI p)), (6, .int (nI many)), (7, .int (nI ms.length + 1))]) (zsub_cons rfl (zsub_cons rfl (zsub_cons rfl (zsub_cons rfl (zsub_cons rfl (zsub_cons rfl (zsub_cons rfl (zsub_cons rfl zsub_nil)))))))) ?_
  rw [nI_1]
  exact KD _ o _ _ bc bh ho (by omega) (by omega)
set_option maxHeartbeats 4000000 in
set_option maxRecDepth 100000 in
theorem lp_d4 {l : Launch} {σ0 : zS} {P V p many uc0 us0 : Nat} {ls G B : List Int32} {mvs : List (List hMv)} {mid : Nat → Nat → Nat} {ms : List hMv} {x8 : Int32} {Q : Option Value → zS → Prop} (bh0 : bH σ0 ls G B mvs) (hP : ls.length = P) (hP3 : P ≤ 3) (hV : G.length = V) (hV2 : V ≤ 2) (lo : lsOk ls) (go : gOk G B) (mo : mOk mvs V) (hpP : p < P) (hp : mvs[p]? = some ms) (hms : ms.length < 6) (hU : uc0 + 3 ≤ 100 ∧ us0 + 27 ≤ 1000) (K5 : ∀ (σ : zS) (o : hMv) (uc us : Nat), zC σ0 σ → bC σ ls G B (mvs.set p (ms ++ [o])) mid → iI σ (zn σ0) o.row → oMv V o → uc ≤ uc0 + 2 → us ≤ us0 + 21 → zAW l zmL_build { frames := 4, cells := 100, slots := 1000, locals := 94 } 536 [(0, .ref 1), (1, .ref 0), (2, .ref 30), (3, .int (nI P)), (4, .int (nI V)), (5, .int (nI p)), (6, .int (nI many)), (7, .int (nI ms.length)), (9, .ref (zn σ0))] [] σ uc us Q) (σ : zS) (o : hMv) (uc us : Nat) (cc : zC σ0 σ) (bc : bC σ ls G B (mvs.set p (ms ++ [o])) mid) (ir : iI σ (zn σ0) o.row) (ho : oMv V o) (hds : o.ds = 0) (hu1 : uc ≤ uc0 + 2) (hu2 : us ≤ us0 + 21) : zAW l zmL_build { frames := 4, cells := 100, slots := 1000, locals := 94 } 446 [(0, .ref 1), (1, .ref 0), (2, .ref 30), (3, .int (nI P)), (4, .int (nI V)), (5, .int (nI p)), (6, .int (nI many)), (7, .int (nI ms.length)), (8, .int x8), (9, .ref (zn σ0))] [] σ uc us Q := by
  have h30 : 30 < zn σ0 := by have := bh0.2.1; omega
  have h5 := mo.1
  have h6 : ∀ (q : Nat) (l : List hMv), mvs[q]? = some l → l.length ≤ 6 := fun q l hq => (mo.2 q l hq).1
  refine zw_iload dL_build_446 rfl ?_
  refine zw_ifle (tgt := 536) dL_build_448 (by decide) (fun c448 => ?_) (fun c448 => ?_)
  · exact zw_loc (lc' := [(0, .ref 1), (1, .ref 0), (2, .ref 30), (3, .int (nI P)), (4, .int (nI V)), (5, .int (nI p)), (6, .int (nI many)), (7, .int (nI ms.length)), (9, .ref (zn σ0))]) (zsub_cons rfl (zsub_cons rfl (zsub_cons rfl (zsub_cons rfl (zsub_cons rfl (zsub_cons rfl (zsub_cons rfl (zsub_cons rfl (zsub_cons rfl zsub_nil))))))))) (K5 σ (o) _ _ cc bc ir ho (by omega) (by omega))
  · have hV0 : 0 < V := Nat.pos_of_ne_zero (fun q => c448 (by rw [q]; decide))
    refine zw_iload dL_build_451 rfl ?_
    refine zw_bipush (x := 6) dL_build_453 rfl ?_
    refine zw_ishr dL_build_455 ?_
    refine zw_iconst (x := 2) dL_build_456 rfl ?_
    refine zw_callS (y' := zmL_below) dL_build_457 zlL_18 zmL_below_ok (c_L_below (n := 2) (by omega) (by omega)) rfl rfl (Nat.le_of_ble_eq_true rfl) ⟨Nat.le_of_ble_eq_true rfl, Nat.le_of_ble_eq_true rfl⟩ ⟨by show _ ≤ 100; omega, by show _ ≤ 1000; omega⟩ ?_
    intro v457 s457 q457
    obtain ⟨⟨j457, h457, rfl⟩, z457⟩ := q457
    rw [z457]
    clear z457
    refine zw_ifne (tgt := 536) dL_build_460 (by decide) (fun c460 => ?_) (fun c460 => ?_)
    · exact zw_loc (lc' := [(0, .ref 1), (1, .ref 0), (2, .ref 30), (3, .int (nI P)), (4, .int (nI V)), (5, .int (nI p)), (6, .int (nI many)), (7, .int (nI ms.length)), (9, .ref (zn σ0))]) (zsub_cons rfl (zsub_cons rfl (zsub_cons rfl (zsub_cons rfl (zsub_cons rfl (zsub_cons rfl (zsub_cons rfl (zsub_cons rfl (zsub_cons rfl zsub_nil))))))))) (K5 σ (o) _ _ cc bc ir ho (by omega) (by omega))
    · refine zw_aload dL_build_463 rfl ?_
      refine zw_bipush (x := 6) dL_build_465 rfl ?_
      refine zw_iload dL_build_467 rfl ?_
      refine zw_bipush (x := 8) dL_build_469 rfl ?_
      refine zw_ishr dL_build_471 ?_
      refine zw_iconst (x := 3) dL_build_472 rfl ?_
      refine zw_callS (y' := zmL_below) dL_build_473 zlL_18 zmL_below_ok (c_L_below (n := 3) (by omega) (by omega)) rfl rfl (Nat.le_of_ble_eq_true rfl) ⟨Nat.le_of_ble_eq_true rfl, Nat.le_of_ble_eq_true rfl⟩ ⟨by show _ ≤ 100; omega, by show _ ≤ 1000; omega⟩ ?_
      intro v473 s473 q473
      obtain ⟨⟨j473, h473, rfl⟩, z473⟩ := q473
      rw [z473]
      clear z473
      refine zw_iastore dL_build_476 ir.1 ir.2.1 (nI_10 (by unfold vp_in; decide) ir) ?_
      rw [show Int32.toNatClampNeg 6 = 6 from by decide]
      have ir : iI (zsI σ (zn σ0) 6 (nI j473)) (zn σ0) (hMv.row (oDd o (nI j473) o.dv o.dn)) := ir.set 6 (nI j473)
      have bc := bc.I (a := zn σ0) (i := 6) (x := nI j473) (by omega)
      have cc := cc.In (a := zn σ0) (i := 6) (x := nI j473) (Nat.le_refl _)
      generalize zsI σ (zn σ0) 6 (nI j473) = σa at ir bc cc ⊢
      refine zw_aload dL_build_477 rfl ?_
      refine zw_bipush (x := 7) dL_build_479 rfl ?_
      refine zw_iload dL_build_481 rfl ?_
      refine zw_bipush (x := 9) dL_build_483 rfl ?_
      refine zw_ishr dL_build_485 ?_
      refine zw_iload dL_build_486 rfl ?_
      refine zw_callS (y' := zmL_below) dL_build_488 zlL_18 zmL_below_ok (c_L_below (n := V) (by omega) (by omega)) rfl rfl (Nat.le_of_ble_eq_true rfl) ⟨Nat.le_of_ble_eq_true rfl, Nat.le_of_ble_eq_true rfl⟩ ⟨by show _ ≤ 100; omega, by show _ ≤ 1000; omega⟩ ?_
      intro v488 s488 q488
      obtain ⟨⟨j488, h488, rfl⟩, z488⟩ := q488
      rw [z488]
      clear z488
      refine zw_iastore dL_build_491 ir.1 ir.2.1 (nI_10 (by unfold vp_in; decide) ir) ?_
      rw [show Int32.toNatClampNeg 7 = 7 from by decide]
      have ir : iI (zsI σa (zn σ0) 7 (nI j488)) (zn σ0) (hMv.row (oDd o (nI j473) j488 o.dn)) := ir.set 7 (nI j488)
      have bc := bc.I (a := zn σ0) (i := 7) (x := nI j488) (by omega)
      have cc := cc.In (a := zn σ0) (i := 7) (x := nI j488) (Nat.le_refl _)
      generalize zsI σa (zn σ0) 7 (nI j488) = σb at ir bc cc ⊢
      refine zw_aload dL_build_492 rfl ?_
      refine zw_bipush (x := 8) dL_build_494 rfl ?_
      refine zw_iload dL_build_496 rfl ?_
      refine zw_bipush (x := 7) dL_build_498 rfl ?_
      refine zw_ishr dL_build_500 ?_
      refine zw_iconst (x := 4) dL_build_501 rfl ?_
      refine zw_callS (y' := zmL_below) dL_build_502 zlL_18 zmL_below_ok (c_L_below (n := 4) (by omega) (by omega)) rfl rfl (Nat.le_of_ble_eq_true rfl) ⟨Nat.le_of_ble_eq_true rfl, Nat.le_of_ble_eq_true rfl⟩ ⟨by show _ ≤ 100; omega, by show _ ≤ 1000; omega⟩ ?_
      intro v502 s502 q502
      obtain ⟨⟨j502, h502, rfl⟩, z502⟩ := q502
      rw [z502]
      clear z502
      refine zw_iconst (x := 1) dL_build_505 rfl ?_
      refine zw_isub dL_build_506 ?_
      refine zw_iastore dL_build_507 ir.1 ir.2.1 (nI_10 (by unfold vp_in; decide) ir) ?_
      rw [show Int32.toNatClampNeg 8 = 8 from by decide]
      have ir : iI (zsI σb (zn σ0) 8 (nI j502 - 1)) (zn σ0) (hMv.row (oDd o (nI j473) j488 (nI j502 - 1))) := ir.set 8 (nI j502 - 1)
      have bc := bc.I (a := zn σ0) (i := 8) (x := nI j502 - 1) (by omega)
      have cc := cc.In (a := zn σ0) (i := 8) (x := nI j502 - 1) (Nat.le_refl _)
      generalize zsI σb (zn σ0) 8 (nI j502 - 1) = σc at ir bc cc ⊢
      obtain ⟨a0, a1, a2, a3⟩ := bC_at bc (by omega)
      obtain ⟨g, gb, g1, g3, gb2, eg, eb⟩ := go.2 j488 (by omega)
      refine zw_aload_n dL_build_508 rfl ?_
      refine zw_iload dL_build_509 rfl ?_
      refine zw_iload dL_build_511 rfl ?_
      refine zw_aload dL_build_513 rfl ?_
      refine zw_bipush (x := 6) dL_build_515 rfl ?_
      refine zw_iaload dL_build_517 ir.1 (nI_10 (by unfold vp_in; decide) ir) ?_
      rw [hrow_6 ir]
      refine zw_aload dL_build_518 rfl ?_
      refine zw_bipush (x := 7) dL_build_520 rfl ?_
      refine zw_iaload dL_build_522 ir.1 (nI_10 (by unfold vp_in; decide) ir) ?_
      rw [hrow_7 ir]
      refine zw_aload dL_build_523 rfl ?_
      refine zw_bipush (x := 8) dL_build_525 rfl ?_
      refine zw_iaload dL_build_527 ir.1 (nI_10 (by unfold vp_in; decide) ir) ?_
      rw [hrow_8 ir]
      refine zw_callV (y' := zmX5_deed) dL_build_528 zlL_53 zmX5_deed_ok (xk_1 bc.1.1) (by decide) rfl (c_X5_deed bc.1.1 bc.2.1.1 (by omega) (show p < ls.length by omega) a0 (Nat.lt_succ_self _) (by omega) a1 a2 bc.2.1.2 (by omega) (j := j488) ⟨show 0 ≤ nI j473 from nI_pos' (by omega), show nI j473 ≤ 2 from nI_le (b := 2) (by omega) (by decide)⟩ (by omega) (dn_b j502 h502)) rfl rfl (Nat.le_of_ble_eq_true rfl) ⟨Nat.le_of_ble_eq_true rfl, Nat.le_of_ble_eq_true rfl⟩ ⟨by show _ ≤ 100; omega, by show _ ≤ 1000; omega⟩ ?_
      intro v528 s528 q528
      obtain ⟨rfl, z528⟩ := q528
      obtain ⟨bc, c2⟩ := bC_deed (x := nI j473) (v := j488) (z := nI j502 - 1) bc h5 (by omega) (by omega) h6 eg
      rw [← z528] at bc c2
      have ir : iI s528 (zn σ0) (hMv.row (oDd o (nI j473) j488 (nI j502 - 1))) := ir.c (by omega) c2
      have cc := cc.tr c2
      refine zw_ifeq (tgt := 536) dL_build_531 (by decide) (fun c531 => ?_) (fun c531 => ?_)
      · exact zw_loc (lc' := [(0, .ref 1), (1, .ref 0), (2, .ref 30), (3, .int (nI P)), (4, .int (nI V)), (5, .int (nI p)), (6, .int (nI many)), (7, .int (nI ms.length)), (9, .ref (zn σ0))]) (zsub_cons rfl (zsub_cons rfl (zsub_cons rfl (zsub_cons rfl (zsub_cons rfl (zsub_cons rfl (zsub_cons rfl (zsub_cons rfl (zsub_cons rfl zsub_nil))))))))) (K5 s528 (oDd o (nI j473) j488 (nI j502 - 1)) _ _ cc bc ir (ho.dd h473 h488 h502) (by omega) (by omega))
      · exact absurd (a3.2.2.2.2.2.2.1.trans hds) c531
set_option maxHeartbeats 4000000 in
set_option maxRecDepth 100000 in
theorem lp_d3 {l : Launch} {σ0 : zS} {P V p many uc0 us0 : Nat} {ls G B : List Int32} {mvs : List (List hMv)} {mid : Nat → Nat → Nat} {ms : List hMv} {x8 : Int32} {Q : Option Value → zS → Prop} (bh0 : bH σ0 ls G B mvs) (hP : ls.length = P) (hP3 : P ≤ 3) (hV : G.length = V) (hV2 : V ≤ 2) (lo : lsOk ls) (go : gOk G B) (mo : mOk mvs V) (hpP : p < P) (hp : mvs[p]? = some ms) (hms : ms.length < 6) (hU : uc0 + 3 ≤ 100 ∧ us0 + 27 ≤ 1000) (K4 : ∀ (σ : zS) (o : hMv) (uc us : Nat), zC σ0 σ → bC σ ls G B (mvs.set p (ms ++ [o])) mid → iI σ (zn σ0) o.row → oMv V o → o.ds = 0 → uc ≤ uc0 + 2 → us ≤ us0 + 21 → zAW l zmL_build { frames := 4, cells := 100, slots := 1000, locals := 94 } 446 [(0, .ref 1), (1, .ref 0), (2, .ref 30), (3, .int (nI P)), (4, .int (nI V)), (5, .int (nI p)), (6, .int (nI many)), (7, .int (nI ms.length)), (8, .int x8), (9, .ref (zn σ0))] [] σ uc us Q) (σ : zS) (o : hMv) (uc us : Nat) (cc : zC σ0 σ) (bc : bC σ ls G B (mvs.set p (ms ++ [o])) mid) (ir : iI σ (zn σ0) o.row) (ho : oMv V o) (hds : o.ds = 0) (hgs : o.gs = 0) (hu1 : uc ≤ uc0 + 2) (hu2 : us ≤ us0 + 21) : zAW l zmL_build { frames := 4, cells := 100, slots := 1000, locals := 94 } 366 [(0, .ref 1), (1, .ref 0), (2, .ref 30), (3, .int (nI P)), (4, .int (nI V)), (5, .int (nI p)), (6, .int (nI many)), (7, .int (nI ms.length)), (8, .int x8), (9, .ref (zn σ0))] [] σ uc us Q := by
  have h30 : 30 < zn σ0 := by have := bh0.2.1; omega
  have h5 := mo.1
  have h6 : ∀ (q : Nat) (l : List hMv), mvs[q]? = some l → l.length ≤ 6 := fun q l hq => (mo.2 q l hq).1
  refine zw_iload dL_build_366 rfl ?_
  refine zw_ifle (tgt := 446) dL_build_368 (by decide) (fun c368 => ?_) (fun c368 => ?_)
  · exact zw_loc (lc' := [(0, .ref 1), (1, .ref 0), (2, .ref 30), (3, .int (nI P)), (4, .int (nI V)), (5, .int (nI p)), (6, .int (nI many)), (7, .int (nI ms.length)), (8, .int x8), (9, .ref (zn σ0))]) (zsub_cons rfl (zsub_cons rfl (zsub_cons rfl (zsub_cons rfl (zsub_cons rfl (zsub_cons rfl (zsub_cons rfl (zsub_cons rfl (zsub_cons rfl (zsub_cons rfl zsub_nil)))))))))) (K4 σ (o) _ _ cc bc ir ho hds (by omega) (by omega))
  · have hV0 : 0 < V := Nat.pos_of_ne_zero (fun q => c368 (by rw [q]; decide))
    refine zw_iload dL_build_371 rfl ?_
    refine zw_iconst (x := 3) dL_build_373 rfl ?_
    refine zw_ishr dL_build_374 ?_
    refine zw_iconst (x := 2) dL_build_375 rfl ?_
    refine zw_callS (y' := zmL_below) dL_build_376 zlL_18 zmL_below_ok (c_L_below (n := 2) (by omega) (by omega)) rfl rfl (Nat.le_of_ble_eq_true rfl) ⟨Nat.le_of_ble_eq_true rfl, Nat.le_of_ble_eq_true rfl⟩ ⟨by show _ ≤ 100; omega, by show _ ≤ 1000; omega⟩ ?_
    intro v376 s376 q376
    obtain ⟨⟨j376, h376, rfl⟩, z376⟩ := q376
    rw [z376]
    clear z376
    refine zw_ifne (tgt := 446) dL_build_379 (by decide) (fun c379 => ?_) (fun c379 => ?_)
    · exact zw_loc (lc' := [(0, .ref 1), (1, .ref 0), (2, .ref 30), (3, .int (nI P)), (4, .int (nI V)), (5, .int (nI p)), (6, .int (nI many)), (7, .int (nI ms.length)), (8, .int x8), (9, .ref (zn σ0))]) (zsub_cons rfl (zsub_cons rfl (zsub_cons rfl (zsub_cons rfl (zsub_cons rfl (zsub_cons rfl (zsub_cons rfl (zsub_cons rfl (zsub_cons rfl (zsub_cons rfl zsub_nil)))))))))) (K4 σ (o) _ _ cc bc ir ho hds (by omega) (by omega))
    · refine zw_aload dL_build_382 rfl ?_
      refine zw_iconst (x := 3) dL_build_384 rfl ?_
      refine zw_iload dL_build_385 rfl ?_
      refine zw_iconst (x := 5) dL_build_387 rfl ?_
      refine zw_ishr dL_build_388 ?_
      refine zw_iconst (x := 5) dL_build_389 rfl ?_
      refine zw_callS (y' := zmL_below) dL_build_390 zlL_18 zmL_below_ok (c_L_below (n := 5) (by omega) (by omega)) rfl rfl (Nat.le_of_ble_eq_true rfl) ⟨Nat.le_of_ble_eq_true rfl, Nat.le_of_ble_eq_true rfl⟩ ⟨by show _ ≤ 100; omega, by show _ ≤ 1000; omega⟩ ?_
      intro v390 s390 q390
      obtain ⟨⟨j390, h390, rfl⟩, z390⟩ := q390
      rw [z390]
      clear z390
      refine zw_iastore dL_build_393 ir.1 ir.2.1 (nI_10 (by unfold vp_in; decide) ir) ?_
      rw [show Int32.toNatClampNeg 3 = 3 from by decide]
      have ir : iI (zsI σ (zn σ0) 3 (nI j390)) (zn σ0) (hMv.row (oGd o (nI j390) o.gv o.gn)) := ir.set 3 (nI j390)
      have bc := bc.I (a := zn σ0) (i := 3) (x := nI j390) (by omega)
      have cc := cc.In (a := zn σ0) (i := 3) (x := nI j390) (Nat.le_refl _)
      generalize zsI σ (zn σ0) 3 (nI j390) = σa at ir bc cc ⊢
      refine zw_aload dL_build_394 rfl ?_
      refine zw_iconst (x := 4) dL_build_396 rfl ?_
      refine zw_iload dL_build_397 rfl ?_
      refine zw_bipush (x := 7) dL_build_399 rfl ?_
      refine zw_ishr dL_build_401 ?_
      refine zw_iload dL_build_402 rfl ?_
      refine zw_callS (y' := zmL_below) dL_build_404 zlL_18 zmL_below_ok (c_L_below (n := V) (by omega) (by omega)) rfl rfl (Nat.le_of_ble_eq_true rfl) ⟨Nat.le_of_ble_eq_true rfl, Nat.le_of_ble_eq_true rfl⟩ ⟨by show _ ≤ 100; omega, by show _ ≤ 1000; omega⟩ ?_
      intro v404 s404 q404
      obtain ⟨⟨j404, h404, rfl⟩, z404⟩ := q404
      rw [z404]
      clear z404
      refine zw_iastore dL_build_407 ir.1 ir.2.1 (nI_10 (by unfold vp_in; decide) ir) ?_
      rw [show Int32.toNatClampNeg 4 = 4 from by decide]
      have ir : iI (zsI σa (zn σ0) 4 (nI j404)) (zn σ0) (hMv.row (oGd o (nI j390) j404 o.gn)) := ir.set 4 (nI j404)
      have bc := bc.I (a := zn σ0) (i := 4) (x := nI j404) (by omega)
      have cc := cc.In (a := zn σ0) (i := 4) (x := nI j404) (Nat.le_refl _)
      generalize zsI σa (zn σ0) 4 (nI j404) = σb at ir bc cc ⊢
      refine zw_aload dL_build_408 rfl ?_
      refine zw_iconst (x := 5) dL_build_410 rfl ?_
      refine zw_iload dL_build_411 rfl ?_
      refine zw_bipush (x := 8) dL_build_413 rfl ?_
      refine zw_ishr dL_build_415 ?_
      refine zw_iconst (x := 4) dL_build_416 rfl ?_
      refine zw_callS (y' := zmL_below) dL_build_417 zlL_18 zmL_below_ok (c_L_below (n := 4) (by omega) (by omega)) rfl rfl (Nat.le_of_ble_eq_true rfl) ⟨Nat.le_of_ble_eq_true rfl, Nat.le_of_ble_eq_true rfl⟩ ⟨by show _ ≤ 100; omega, by show _ ≤ 1000; omega⟩ ?_
      intro v417 s417 q417
      obtain ⟨⟨j417, h417, rfl⟩, z417⟩ := q417
      rw [z417]
      clear z417
      refine zw_iastore dL_build_420 ir.1 ir.2.1 (nI_10 (by unfold vp_in; decide) ir) ?_
      rw [show Int32.toNatClampNeg 5 = 5 from by decide]
      have ir : iI (zsI σb (zn σ0) 5 (nI j417)) (zn σ0) (hMv.row (oGd o (nI j390) j404 (nI j417))) := ir.set 5 (nI j417)
      have bc := bc.I (a := zn σ0) (i := 5) (x := nI j417) (by omega)
      have cc := cc.In (a := zn σ0) (i := 5) (x := nI j417) (Nat.le_refl _)
      generalize zsI σb (zn σ0) 5 (nI j417) = σc at ir bc cc ⊢
      obtain ⟨a0, a1, a2, a3⟩ := bC_at bc (by omega)
      refine zw_aload_n dL_build_421 rfl ?_
      refine zw_iload dL_build_422 rfl ?_
      refine zw_iload dL_build_424 rfl ?_
      refine zw_aload dL_build_426 rfl ?_
      refine zw_iconst (x := 3) dL_build_428 rfl ?_
      refine zw_iaload dL_build_429 ir.1 (nI_10 (by unfold vp_in; decide) ir) ?_
      rw [hrow_3 ir]
      refine zw_aload dL_build_430 rfl ?_
      refine zw_iconst (x := 4) dL_build_432 rfl ?_
      refine zw_iaload dL_build_433 ir.1 (nI_10 (by unfold vp_in; decide) ir) ?_
      rw [hrow_4 ir]
      refine zw_aload dL_build_434 rfl ?_
      refine zw_iconst (x := 5) dL_build_436 rfl ?_
      refine zw_iaload dL_build_437 ir.1 (nI_10 (by unfold vp_in; decide) ir) ?_
      rw [hrow_5 ir]
      refine zw_callV (y' := zmX5_guard) dL_build_438 zlL_49 zmX5_guard_ok (xk_1 bc.1.1) (by decide) rfl (c_X5_guard bc.1.1 bc.2.1.1 (by omega) (show p < ls.length by omega) a0 (Nat.lt_succ_self _) (by omega) a1 a2 bc.2.1.2 (y := nI j404) ⟨show 0 ≤ nI j390 from nI_pos' (by omega), show nI j390 ≤ 4 from nI_le (b := 4) (by omega) (by decide)⟩ ⟨nI_pos' (by omega), nI_lt (by omega) (by omega)⟩ ⟨show 0 ≤ nI j417 from nI_pos' (by omega), show nI j417 ≤ 9 from nI_le (b := 9) (by omega) (by decide)⟩) rfl rfl (Nat.le_of_ble_eq_true rfl) ⟨Nat.le_of_ble_eq_true rfl, Nat.le_of_ble_eq_true rfl⟩ ⟨by show _ ≤ 100; omega, by show _ ≤ 1000; omega⟩ ?_
      intro v438 s438 q438
      obtain ⟨rfl, z438⟩ := q438
      obtain ⟨bc, c2⟩ := bC_guard (x := nI j390) (v := j404) (z := nI j417) bc h5 (by omega) (by omega) h6
      rw [← z438] at bc c2
      have ir : iI s438 (zn σ0) (hMv.row (oGd o (nI j390) j404 (nI j417))) := ir.c (by omega) c2
      have cc := cc.tr c2
      refine zw_ifeq (tgt := 446) dL_build_441 (by decide) (fun c441 => ?_) (fun c441 => ?_)
      · exact zw_loc (lc' := [(0, .ref 1), (1, .ref 0), (2, .ref 30), (3, .int (nI P)), (4, .int (nI V)), (5, .int (nI p)), (6, .int (nI many)), (7, .int (nI ms.length)), (8, .int x8), (9, .ref (zn σ0))]) (zsub_cons rfl (zsub_cons rfl (zsub_cons rfl (zsub_cons rfl (zsub_cons rfl (zsub_cons rfl (zsub_cons rfl (zsub_cons rfl (zsub_cons rfl (zsub_cons rfl zsub_nil)))))))))) (K4 s438 (oGd o (nI j390) j404 (nI j417)) _ _ cc bc ir (ho.gd h390 h404) hds (by omega) (by omega))
      · exact absurd (a3.2.2.2.1.trans hgs) c441
