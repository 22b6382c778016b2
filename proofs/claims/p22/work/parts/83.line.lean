/-! the law's line of states from a bad one on -/
/-- a row of marks: which states are in the line -/
def mk_ (σ0 σ : zS) (ib n : Nat) (xs : List Nat) : Prop := zK σ ib = 101 ∧ zL σ ib = n ∧ zn σ0 ≤ ib ∧ ib < zn σ ∧ ∀ t, t < n → zI σ ib t = zb (decide (t ∈ xs))
theorem mk_.x {σ0 σ σ' : zS} {ib n : Nat} {xs : List Nat} (h : mk_ σ0 σ ib n xs) (hx : zX σ σ') : mk_ σ0 σ' ib n xs := by
  obtain ⟨h1, h2, h3, h4, h5⟩ := h
  obtain ⟨b1, b2, b3, -⟩ := hx.2 ib h4
  exact ⟨b1.trans h1, b2.trans h2, h3, Nat.lt_of_lt_of_le h4 hx.1, fun t ht => by rw [b3]; exact h5 t ht⟩
theorem mk_.add {σ0 σ : zS} {ib n y : Nat} {xs : List Nat} (h : mk_ σ0 σ ib n xs) : mk_ σ0 (zsI σ ib y 1) ib n (xs ++ [y]) := by
  obtain ⟨h1, h2, h3, h4, h5⟩ := h
  refine ⟨h1, h2, h3, h4, fun t ht => ?_⟩
  rw [zI_zsI]
  by_cases e : t = y
  · rw [if_pos ⟨rfl, e⟩, e, decide_eq_true (List.mem_append_right _ List.mem_cons_self)]
    rfl
  · rw [if_neg (fun q => e q.2), h5 t ht]
    congr 1
    refine decide_eq_decide.mpr ⟨fun q => List.mem_append_left _ q, fun q => ?_⟩
    rcases List.mem_append.mp q with z | z
    · exact z
    · exact absurd (List.mem_singleton.mp z) e
/-- the line: no doubles, states without q alone, the first one in it -/
def ln_ (n : Nat) (w : Nat → Bool) (s0 : Nat) (xs : List Nat) : Prop := xs.Nodup ∧ (∀ x, x ∈ xs → x < n ∧ w x = true) ∧ s0 ∈ xs
theorem ln_.add {n s0 y : Nat} {w : Nat → Bool} {xs : List Nat} (h : ln_ n w s0 xs) (hy : y < n) (hw : w y = true) (hn : y ∉ xs) : ln_ n w s0 (xs ++ [y]) := by
  refine ⟨List.nodup_append.mpr ⟨h.1, List.nodup_cons.mpr ⟨List.not_mem_nil, List.nodup_nil⟩, fun a ha b hb => ?_⟩, fun x hx => ?_, List.mem_append_left _ h.2.2⟩
  · rw [List.mem_singleton.mp hb]
    exact fun e => hn (e ▸ ha)
  · rcases List.mem_append.mp hx with z | z
    · exact h.2.1 x z
    · rw [List.mem_singleton.mp z]; exact ⟨hy, hw⟩
theorem ln_.len {n s0 : Nat} {w : Nat → Bool} {xs : List Nat} (h : ln_ n w s0 xs) : xs.length ≤ n := nd_len n xs h.1 (fun x hx => (h.2.1 x hx).1)
/-- the steps of the states before the place k lead farther on -/
def fw_ (E : Nat → List Nat) (w : Nat → Bool) (xs : List Nat) (k : Nat) : Prop := ∀ (k' x : Nat), k' < k → xs[k']? = some x → E x ≠ [] ∧ ∀ y, y ∈ E x → w y = true → ∃ m : Nat, k' < m ∧ xs[m]? = some y
theorem fw_.app {E : Nat → List Nat} {w : Nat → Bool} {xs : List Nat} {k : Nat} (h : fw_ E w xs k) (hk : k ≤ xs.length) (y : Nat) : fw_ E w (xs ++ [y]) k := by
  intro k' x hk' hx
  rw [List.getElem?_append_left (by omega)] at hx
  obtain ⟨h1, h2⟩ := h k' x hk' hx
  refine ⟨h1, fun z hz hw => ?_⟩
  obtain ⟨m, m1, m2⟩ := h2 z hz hw
  exact ⟨m, m1, by rw [List.getElem?_append_left (List.getElem?_eq_some_iff.mp m2).1]; exact m2⟩
/-- the first i steps of the state at the place k -/
def gw_ (E : Nat → List Nat) (w : Nat → Bool) (xs : List Nat) (k at_ i : Nat) : Prop := E at_ ≠ [] ∧ ∀ (j y : Nat), j < i → (E at_)[j]? = some y → w y = true → ∃ m : Nat, k < m ∧ xs[m]? = some y
theorem gw_.skip {E : Nat → List Nat} {w : Nat → Bool} {xs : List Nat} {k at_ i y : Nat} (h : gw_ E w xs k at_ i) (hy : (E at_)[i]? = some y) (hw : w y = false) : gw_ E w xs k at_ (i + 1) := by
  refine ⟨h.1, fun j z hj hz hwz => ?_⟩
  by_cases e : j = i
  · rw [e, hy] at hz
    rw [← Option.some.inj hz, hw] at hwz
    cases hwz
  · exact h.2 j z (by omega) hz hwz
theorem gw_.add {E : Nat → List Nat} {w : Nat → Bool} {xs : List Nat} {k at_ i y : Nat} (h : gw_ E w xs k at_ i) (hy : (E at_)[i]? = some y) (hk : k < xs.length) : gw_ E w (xs ++ [y]) k at_ (i + 1) := by
  refine ⟨h.1, fun j z hj hz hwz => ?_⟩
  by_cases e : j = i
  · rw [e, hy] at hz
    refine ⟨xs.length, hk, ?_⟩
    rw [List.getElem?_append_right (Nat.le_refl _), Nat.sub_self, ← Option.some.inj hz]
    rfl
  · obtain ⟨m, m1, m2⟩ := h.2 j z (by omega) hz hwz
    exact ⟨m, m1, by rw [List.getElem?_append_left (List.getElem?_eq_some_iff.mp m2).1]; exact m2⟩
theorem gw_.done {E : Nat → List Nat} {w : Nat → Bool} {xs : List Nat} {k at_ : Nat} (h : gw_ E w xs k at_ (E at_).length) (hf : fw_ E w xs k) (hat : xs[k]? = some at_) : fw_ E w xs (k + 1) := by
  intro k' x hk' hx
  by_cases e : k' = k
  · rw [e] at hx ⊢
    rw [hat] at hx
    have hx := Option.some.inj hx
    subst hx
    refine ⟨h.1, fun y hy hw => ?_⟩
    obtain ⟨j, hj⟩ := List.getElem?_of_mem hy
    exact h.2 j y (List.getElem?_eq_some_iff.mp hj).1 hj hw
  · exact hf k' x (by omega) hx
set_option maxHeartbeats 4000000 in
set_option maxRecDepth 100000 in
theorem lp_s1 {l : Launch} {σ0 : zS} {ls G : List Int32} {pk n fa : Nat} {fs dep par pst : Nat → Nat} {E : Nat → List Nat} (wl0 : wL σ0 ls G pk n fs dep par pst E fa) {q s0 ib : Nat} (hq : q < 8) {k at_ : Nat} (hat : at_ < n) (KE : ∀ (σ : zS) (xs : List Nat) (cs : Bool) (la uc us : Nat), zX σ0 σ → iI σ la (xs.map nI) → mk_ σ0 σ ib n xs → ln_ n (wW σ0 q) s0 xs → uc ≤ 504400 + xs.length → us ≤ 5667400 + 402 * xs.length → xs[k]? = some at_ → (cs = false → fw_ E (wW σ0 q) xs k ∧ gw_ E (wW σ0 q) xs k at_ (E at_).length) → zAW l zmL_lw { frames := 10, cells := 600086, slots := 7301442, locals := 360 } 500 [(0, .ref 0), (1, .ref 1), (2, .ref 30), (3, .int (nI n)), (4, .ref fa), (5, .int (nI q)), (8, .ref la), (9, .ref ib), (10, .int (zb cs)), (11, .int (nI k))] [] σ uc us (fun v _ => v = some (.int 1))) : ∀ (d i : Nat) (σ : zS) (xs : List Nat) (cs : Bool) (la uc us : Nat), i + d = (E at_).length → zX σ0 σ → iI σ la (xs.map nI) → mk_ σ0 σ ib n xs → ln_ n (wW σ0 q) s0 xs → uc ≤ 504400 + xs.length → us ≤ 5667400 + 402 * xs.length → xs[k]? = some at_ → (cs = false → fw_ E (wW σ0 q) xs k ∧ gw_ E (wW σ0 q) xs k at_ i) → zAW l zmL_lw { frames := 10, cells := 600086, slots := 7301442, locals := 360 } 410 [(0, .ref 0), (1, .ref 1), (2, .ref 30), (3, .int (nI n)), (4, .ref fa), (5, .int (nI q)), (8, .ref la), (9, .ref ib), (10, .int (zb cs)), (11, .int (nI k)), (12, .int (nI at_)), (13, .int (nI i))] [] σ uc us (fun v _ => v = some (.int 1)) := by
  have hE20 := wl0.1.len hat
  have hn := wl0.1.2.2.2.2.1.2.1
  intro d
  induction d with
  | zero =>
    intro i σ xs cs la uc us hd hx il mk ln hu1 hu2 hk hinv
    have hlen := ln.len
    have wl := wl0.x hx
    refine zw_iload dL_law_410 rfl ?_
    refine zw_aload_n dL_law_412 rfl ?_
    refine zw_iload dL_law_413 rfl ?_
    refine zw_bipush (x := 9) dL_law_415 rfl ?_
    refine zw_callV (y' := zmX5_state) dL_law_417 zlL_89 zmX5_state_ok (xk_1 wl.1.1) (by decide) rfl (c_X5_state_9 wl.1.1 (wl.1.st hat).1 (wl.1.st hat).2.1 hat (wl.1.st hat).2.2.1 (wl.1.st hat).2.2.2.1) rfl rfl (Nat.le_of_ble_eq_true rfl) ⟨Nat.le_of_ble_eq_true rfl, Nat.le_of_ble_eq_true rfl⟩ ⟨by show _ ≤ 600086; omega, by show _ ≤ 7301442; omega⟩ ?_
    intro v417 s417 q417
    obtain ⟨rfl, z417⟩ := q417
    rw [z417]
    clear z417
    refine zw_icmpge (tgt := 500) dL_law_420 (by decide) (fun c420 => ?_) (fun c420 => ?_)
    · refine zw_loc (lc' := [(0, .ref 0), (1, .ref 1), (2, .ref 30), (3, .int (nI n)), (4, .ref fa), (5, .int (nI q)), (8, .ref la), (9, .ref ib), (10, .int (zb cs)), (11, .int (nI k))]) (zsub_cons rfl (zsub_cons rfl (zsub_cons rfl (zsub_cons rfl (zsub_cons rfl (zsub_cons rfl (zsub_cons rfl (zsub_cons rfl (zsub_cons rfl (zsub_cons rfl zsub_nil)))))))))) ?_
      have e : i = (E at_).length := by omega
      rw [e] at hinv
      exact KE σ xs cs la _ _ hx il mk ln (by omega) (by omega) hk hinv
    · exact absurd (nI_le (show (E at_).length ≤ i by omega) (by omega)) c420
  | succ d ih =>
    intro i σ xs cs la uc us hd hx il mk ln hu1 hu2 hk hinv
    have hlen := ln.len
    have wl := wl0.x hx
    have hi : i < (E at_).length := by omega
    have hgt : (E at_)[i]? = some (E at_)[i] := List.getElem?_eq_getElem hi
    obtain ⟨t1, t2, -, -⟩ := wl.1.tg hat hgt
    have hkl := (List.getElem?_eq_some_iff.mp hk).1
    have ew : ∀ t, xHold σ q (zI σ 9 t) = !(wW σ0 q) t := fun t => by
      have f := wl0.2.2.2.2.1.2.1
      have o : ∀ a, a < 30 → zI σ a = zI σ0 a := fun a ha => (hx.2 a (by omega)).2.2.1
      unfold wW
      rw [xHold_cg (o 18 (by decide)) (o 19 (by decide)) (o 20 (by decide)), o 9 (by decide), Bool.not_not]
    generalize hy : (E at_)[i] = y at hgt t1 t2
    refine zw_iload dL_law_410 rfl ?_
    refine zw_aload_n dL_law_412 rfl ?_
    refine zw_iload dL_law_413 rfl ?_
    refine zw_bipush (x := 9) dL_law_415 rfl ?_
    refine zw_callV (y' := zmX5_state) dL_law_417 zlL_89 zmX5_state_ok (xk_1 wl.1.1) (by decide) rfl (c_X5_state_9 wl.1.1 (wl.1.st hat).1 (wl.1.st hat).2.1 hat (wl.1.st hat).2.2.1 (wl.1.st hat).2.2.2.1) rfl rfl (Nat.le_of_ble_eq_true rfl) ⟨Nat.le_of_ble_eq_true rfl, Nat.le_of_ble_eq_true rfl⟩ ⟨by show _ ≤ 600086; omega, by show _ ≤ 7301442; omega⟩ ?_
    intro v417 s417 q417
    obtain ⟨rfl, z417⟩ := q417
    rw [z417]
    clear z417
    refine zw_icmpge (tgt := 500) dL_law_420 (by decide) (fun c420 => ?_) (fun c420 => ?_)
    · exact absurd c420 (nI_ge hi (by omega))
    · refine zw_aload_n dL_law_423 rfl ?_
      refine zw_iload dL_law_424 rfl ?_
      refine zw_iload dL_law_426 rfl ?_
      refine zw_iconst (x := 0) dL_law_428 rfl ?_
      refine zw_callV (y' := zmX5_step) dL_law_429 zlL_95 zmX5_step_ok (xk_1 wl.1.1) (by decide) rfl (c_X5_step wl.1.1 (wl.1.st hat).1 (wl.1.st hat).2.1 hat (j := i) (wl.1.st hat).2.2.1 (wl.1.st hat).2.2.2.1 hi (wl.1.st hat).2.2.2.2.1 (wl.1.st hat).2.2.2.2.2.1 (wl.1.st hat).2.2.2.2.2.2 (w := 0) ⟨by decide, by decide⟩) rfl rfl (Nat.le_of_ble_eq_true rfl) ⟨Nat.le_of_ble_eq_true rfl, Nat.le_of_ble_eq_true rfl⟩ ⟨by show _ ≤ 600086; omega, by show _ ≤ 7301442; omega⟩ ?_
      intro v429 s429 q429
      obtain ⟨rfl, z429⟩ := q429
      rw [z429]
      clear z429
      rw [t2]
      refine zw_istore dL_law_432 (by decide) rfl ?_
      refine zw_aload_n dL_law_434 rfl ?_
      refine zw_iload dL_law_435 rfl ?_
      refine zw_iload dL_law_437 rfl ?_
      refine zw_callV (y' := zmX5_holds) dL_law_439 zlL_101 zmX5_holds_ok (xk_1 wl.1.1) (by decide) rfl (c_X5_holds wl.1.1 (wl.1.st t1).1 (wl.1.st t1).2.1 t1 (nf := 8) wl.2.2.1 (by decide) hq) rfl rfl (Nat.le_of_ble_eq_true rfl) ⟨Nat.le_of_ble_eq_true rfl, Nat.le_of_ble_eq_true rfl⟩ ⟨by show _ ≤ 600086; omega, by show _ ≤ 7301442; omega⟩ ?_
      intro v439 s439 q439
      obtain ⟨rfl, z439⟩ := q439
      rw [z439]
      clear z439
      rw [ew y]
      refine zw_ifeq (tgt := 448) dL_law_442 (by decide) (fun c442 => ?_) (fun c442 => ?_)
      · refine zw_iload dL_law_448 rfl ?_
        refine zw_ifne (tgt := 461) dL_law_450 (by decide) (fun c450 => ?_) (fun c450 => ?_)
        · refine zw_iconst (x := 1) dL_law_461 rfl ?_
          refine zw_goto (tgt := 466) dL_law_462 (by decide) ?_
          refine zw_istore dL_law_466 (by decide) rfl ?_
          refine zw_aload dL_law_468 rfl ?_
          refine zw_iload dL_law_470 rfl ?_
          refine zw_baload dL_law_472 mk.1 (zin_of mk.2.1 (vp_in_nI t1 (by omega))) ?_
          rw [nI_clamp (show y < 2 ^ 31 by omega), mk.2.2.2.2 y t1]
          refine zw_ifeq (tgt := 479) dL_law_473 (by decide) (fun c473 => ?_) (fun c473 => ?_)
          · refine zw_aload dL_law_479 rfl ?_
            refine zw_iload dL_law_481 rfl ?_
            refine zw_iconst (x := 1) dL_law_483 rfl ?_
            refine zw_bastore dL_law_484 mk.1 rfl (zin_of mk.2.1 (vp_in_nI t1 (by omega))) ?_
            rw [nI_clamp (show y < 2 ^ 31 by omega)]
            have il2 : iI (zsI σ ib y 1) la (xs.map nI) := il.ne (fun e => by have := mk.1; rw [← e, il.1] at this; exact absurd this (by decide))
            have emp : (xs.map nI).length = xs.length := List.length_map ..
            refine zw_aload dL_law_485 rfl ?_
            refine zw_iload dL_law_487 rfl ?_
            refine zw_callS (y' := zmX6_more) dL_law_489 zlL_26 zmX6_more_ok (c_X6_more il2 (by omega)) rfl rfl (Nat.le_of_ble_eq_true rfl) ⟨Nat.le_of_ble_eq_true rfl, Nat.le_of_ble_eq_true rfl⟩ ⟨by show _ ≤ 600086; omega, by show _ ≤ 7301442; omega⟩ ?_
            intro v489 s489 q489
            obtain ⟨rfl, x489, n489, i489⟩ := q489
            refine zw_astore dL_law_492 (by decide) rfl ?_
            refine zw_iinc dL_law_494 rfl (by decide) rfl ?_
            refine zw_goto (tgt := 410) dL_law_497 (by decide) ?_
            refine zw_loc (lc' := [(0, .ref 0), (1, .ref 1), (2, .ref 30), (3, .int (nI n)), (4, .ref fa), (5, .int (nI q)), (8, .ref (zn (zsI σ ib y 1))), (9, .ref ib), (10, .int (zb (true))), (11, .int (nI k)), (12, .int (nI at_)), (13, .int (nI i + 1))]) (zsub_cons rfl (zsub_cons rfl (zsub_cons rfl (zsub_cons rfl (zsub_cons rfl (zsub_cons rfl (zsub_cons rfl (zsub_cons rfl (zsub_cons rfl (zsub_cons rfl (zsub_cons rfl (zsub_cons rfl zsub_nil)))))))))))) ?_
            rw [nI_1]
            have hwy : (wW σ0 q) y = true := by
              have := zb_0.mp c442
              cases e : (wW σ0 q) y with
              | false => rw [e] at this; cases this
              | true => rfl
            have hyn : y ∉ xs := of_decide_eq_false (zb_0.mp c473)
            have mk2 := (mk.add (y := y)).x x489
            have ln2 := ln.add t1 hwy hyn
            have el : (xs ++ [y]).length = xs.length + 1 := by rw [List.length_append]; rfl
            exact ih (i + 1) s489 (xs ++ [y]) true _ _ _ (by omega) ((hx.I mk.2.2.1).tr x489) (by rw [List.map_append]; exact i489) mk2 ln2 (by rw [el]; omega) (by rw [el]; omega) (by rw [List.getElem?_append_left hkl]; exact hk) (fun z => by cases z)
          · refine zw_goto (tgt := 494) dL_law_476 (by decide) ?_
            refine zw_iinc dL_law_494 rfl (by decide) rfl ?_
            refine zw_goto (tgt := 410) dL_law_497 (by decide) ?_
            refine zw_loc (lc' := [(0, .ref 0), (1, .ref 1), (2, .ref 30), (3, .int (nI n)), (4, .ref fa), (5, .int (nI q)), (8, .ref la), (9, .ref ib), (10, .int (zb (true))), (11, .int (nI k)), (12, .int (nI at_)), (13, .int (nI i + 1))]) (zsub_cons rfl (zsub_cons rfl (zsub_cons rfl (zsub_cons rfl (zsub_cons rfl (zsub_cons rfl (zsub_cons rfl (zsub_cons rfl (zsub_cons rfl (zsub_cons rfl (zsub_cons rfl (zsub_cons rfl zsub_nil)))))))))))) ?_
            rw [nI_1]
            exact ih (i + 1) σ xs true la _ _ (by omega) hx il mk ln (by omega) (by omega) hk (fun z => by cases z)
        · refine zw_aload dL_law_453 rfl ?_
          refine zw_iload dL_law_455 rfl ?_
          refine zw_baload dL_law_457 mk.1 (zin_of mk.2.1 (vp_in_nI t1 (by omega))) ?_
          rw [nI_clamp (show y < 2 ^ 31 by omega), mk.2.2.2.2 y t1]
          refine zw_ifeq (tgt := 465) dL_law_458 (by decide) (fun c458 => ?_) (fun c458 => ?_)
          · refine zw_iconst (x := 0) dL_law_465 rfl ?_
            refine zw_istore dL_law_466 (by decide) rfl ?_
            refine zw_aload dL_law_468 rfl ?_
            refine zw_iload dL_law_470 rfl ?_
            refine zw_baload dL_law_472 mk.1 (zin_of mk.2.1 (vp_in_nI t1 (by omega))) ?_
            rw [nI_clamp (show y < 2 ^ 31 by omega), mk.2.2.2.2 y t1]
            refine zw_ifeq (tgt := 479) dL_law_473 (by decide) (fun c473 => ?_) (fun c473 => ?_)
            · refine zw_aload dL_law_479 rfl ?_
              refine zw_iload dL_law_481 rfl ?_
              refine zw_iconst (x := 1) dL_law_483 rfl ?_
              refine zw_bastore dL_law_484 mk.1 rfl (zin_of mk.2.1 (vp_in_nI t1 (by omega))) ?_
              rw [nI_clamp (show y < 2 ^ 31 by omega)]
              have il2 : iI (zsI σ ib y 1) la (xs.map nI) := il.ne (fun e => by have := mk.1; rw [← e, il.1] at this; exact absurd this (by decide))
              have emp : (xs.map nI).length = xs.length := List.length_map ..
              refine zw_aload dL_law_485 rfl ?_
              refine zw_iload dL_law_487 rfl ?_
              refine zw_callS (y' := zmX6_more) dL_law_489 zlL_26 zmX6_more_ok (c_X6_more il2 (by omega)) rfl rfl (Nat.le_of_ble_eq_true rfl) ⟨Nat.le_of_ble_eq_true rfl, Nat.le_of_ble_eq_true rfl⟩ ⟨by show _ ≤ 600086; omega, by show _ ≤ 7301442; omega⟩ ?_
              intro v489 s489 q489
              obtain ⟨rfl, x489, n489, i489⟩ := q489
              refine zw_astore dL_law_492 (by decide) rfl ?_
              refine zw_iinc dL_law_494 rfl (by decide) rfl ?_
              refine zw_goto (tgt := 410) dL_law_497 (by decide) ?_
              refine zw_loc (lc' := [(0, .ref 0), (1, .ref 1), (2, .ref 30), (3, .int (nI n)), (4, .ref fa), (5, .int (nI q)), (8, .ref (zn (zsI σ ib y 1))), (9, .ref ib), (10, .int (zb (false))), (11, .int (nI k)), (12, .int (nI at_)), (13, .int (nI i + 1))]) (zsub_cons rfl (zsub_cons rfl (zsub_cons rfl (zsub_cons rfl (zsub_cons rfl (zsub_cons rfl (zsub_cons rfl (zsub_cons rfl (zsub_cons rfl (zsub_cons rfl (zsub_cons rfl (zsub_cons rfl zsub_nil)))))))))))) ?_
              rw [nI_1]
              have hwy : (wW σ0 q) y = true := by
                have := zb_0.mp c442
                cases e : (wW σ0 q) y with
                | false => rw [e] at this; cases this
                | true => rfl
              have hyn : y ∉ xs := of_decide_eq_false (zb_0.mp c473)
              have mk2 := (mk.add (y := y)).x x489
              have ln2 := ln.add t1 hwy hyn
              have el : (xs ++ [y]).length = xs.length + 1 := by rw [List.length_append]; rfl
              exact ih (i + 1) s489 (xs ++ [y]) false _ _ _ (by omega) ((hx.I mk.2.2.1).tr x489) (by rw [List.map_append]; exact i489) mk2 ln2 (by rw [el]; omega) (by rw [el]; omega) (by rw [List.getElem?_append_left hkl]; exact hk) (fun _ => by
                obtain ⟨z1, z2⟩ := hinv (zb_0.mp c450)
                exact ⟨z1.app (Nat.le_of_lt hkl) y, z2.add hgt hkl⟩)
            · refine zw_goto (tgt := 494) dL_law_476 (by decide) ?_
              refine zw_iinc dL_law_494 rfl (by decide) rfl ?_
              refine zw_goto (tgt := 410) dL_law_497 (by decide) ?_
              exact absurd c458 c473
          · refine zw_iconst (x := 1) dL_law_461 rfl ?_
            refine zw_goto (tgt := 466) dL_law_462 (by decide) ?_
            refine zw_istore dL_law_466 (by decide) rfl ?_
            refine zw_aload dL_law_468 rfl ?_
            refine zw_iload dL_law_470 rfl ?_
            refine zw_baload dL_law_472 mk.1 (zin_of mk.2.1 (vp_in_nI t1 (by omega))) ?_
            rw [nI_clamp (show y < 2 ^ 31 by omega), mk.2.2.2.2 y t1]
            refine zw_ifeq (tgt := 479) dL_law_473 (by decide) (fun c473 => ?_) (fun c473 => ?_)
            · refine zw_aload dL_law_479 rfl ?_
              refine zw_iload dL_law_481 rfl ?_
              refine zw_iconst (x := 1) dL_law_483 rfl ?_
              refine zw_bastore dL_law_484 mk.1 rfl (zin_of mk.2.1 (vp_in_nI t1 (by omega))) ?_
              rw [nI_clamp (show y < 2 ^ 31 by omega)]
              have il2 : iI (zsI σ ib y 1) la (xs.map nI) := il.ne (fun e => by have := mk.1; rw [← e, il.1] at this; exact absurd this (by decide))
              have emp : (xs.map nI).length = xs.length := List.length_map ..
              refine zw_aload dL_law_485 rfl ?_
              refine zw_iload dL_law_487 rfl ?_
              refine zw_callS (y' := zmX6_more) dL_law_489 zlL_26 zmX6_more_ok (c_X6_more il2 (by omega)) rfl rfl (Nat.le_of_ble_eq_true rfl) ⟨Nat.le_of_ble_eq_true rfl, Nat.le_of_ble_eq_true rfl⟩ ⟨by show _ ≤ 600086; omega, by show _ ≤ 7301442; omega⟩ ?_
              intro v489 s489 q489
              obtain ⟨rfl, x489, n489, i489⟩ := q489
              refine zw_astore dL_law_492 (by decide) rfl ?_
              refine zw_iinc dL_law_494 rfl (by decide) rfl ?_
              refine zw_goto (tgt := 410) dL_law_497 (by decide) ?_
              exact absurd c473 c458
            · refine zw_goto (tgt := 494) dL_law_476 (by decide) ?_
              refine zw_iinc dL_law_494 rfl (by decide) rfl ?_
              refine zw_goto (tgt := 410) dL_law_497 (by decide) ?_
              refine zw_loc (lc' := [(0, .ref 0), (1, .ref 1), (2, .ref 30), (3, .int (nI n)), (4, .ref fa), (5, .int (nI q)), (8, .ref la), (9, .ref ib), (10, .int (zb (true))), (11, .int (nI k)), (12, .int (nI at_)), (13, .int (nI i + 1))]) (zsub_cons rfl (zsub_cons rfl (zsub_cons rfl (zsub_cons rfl (zsub_cons rfl (zsub_cons rfl (zsub_cons rfl (zsub_cons rfl (zsub_cons rfl (zsub_cons rfl (zsub_cons rfl (zsub_cons rfl zsub_nil)))))))))))) ?_
              rw [nI_1]
              exact ih (i + 1) σ xs true la _ _ (by omega) hx il mk ln (by omega) (by omega) hk (fun z => by cases z)
      · refine zw_goto (tgt := 494) dL_law_445 (by decide) ?_
        refine zw_iinc dL_law_494 rfl (by decide) rfl ?_
        refine zw_goto (tgt := 410) dL_law_497 (by decide) ?_
        refine zw_loc (lc' := [(0, .ref 0), (1, .ref 1), (2, .ref 30), (3, .int (nI n)), (4, .ref fa), (5, .int (nI q)), (8, .ref la), (9, .ref ib), (10, .int (zb (cs))), (11, .int (nI k)), (12, .int (nI at_)), (13, .int (nI i + 1))]) (zsub_cons rfl (zsub_cons rfl (zsub_cons rfl (zsub_cons rfl (zsub_cons rfl (zsub_cons rfl (zsub_cons rfl (zsub_cons rfl (zsub_cons rfl (zsub_cons rfl (zsub_cons rfl (zsub_cons rfl zsub_nil)))))))))))) ?_
        rw [nI_1]
        have hwy : (wW σ0 q) y = false := by
          have := zb_1.mp c442
          cases e : (wW σ0 q) y with
          | false => rfl
          | true => rw [e] at this; cases this
        exact ih (i + 1) σ xs cs la _ _ (by omega) hx il mk ln (by omega) (by omega) hk (fun z => ⟨(hinv z).1, (hinv z).2.skip hgt hwy⟩)
set_option maxHeartbeats 4000000 in
set_option maxRecDepth 100000 in
theorem lp_s2 {l : Launch} {σ0 : zS} {ls G : List Int32} {pk n fa : Nat} {fs dep par pst : Nat → Nat} {E : Nat → List Nat} (wl0 : wL σ0 ls G pk n fs dep par pst E fa) {q s0 ib : Nat} (hq : q < 8) (hwit : tWit E (wW σ0 q) s0) (KF : ∀ (σ : zS) (uc us : Nat), zX σ0 σ → uc ≤ 600086 → us ≤ 7301442 → zAW l zmL_lw { frames := 10, cells := 600086, slots := 7301442, locals := 360 } 513 [(0, .ref 0), (1, .ref 1), (2, .ref 30), (3, .int (nI n)), (4, .ref fa), (5, .int (nI q))] [] σ uc us (fun v _ => v = some (.int 1))) : ∀ (d k : Nat) (σ : zS) (xs : List Nat) (cs : Bool) (la uc us : Nat), k + d = n → k ≤ xs.length → zX σ0 σ → iI σ la (xs.map nI) → mk_ σ0 σ ib n xs → ln_ n (wW σ0 q) s0 xs → uc ≤ 504400 + xs.length → us ≤ 5667400 + 402 * xs.length → (cs = false → fw_ E (wW σ0 q) xs k) → zAW l zmL_lw { frames := 10, cells := 600086, slots := 7301442, locals := 360 } 369 [(0, .ref 0), (1, .ref 1), (2, .ref 30), (3, .int (nI n)), (4, .ref fa), (5, .int (nI q)), (8, .ref la), (9, .ref ib), (10, .int (zb cs)), (11, .int (nI k))] [] σ uc us (fun v _ => v = some (.int 1)) := by
  have hn := wl0.1.2.2.2.2.1.2.1
  intro d
  induction d with
  | zero =>
    intro k σ xs cs la uc us hd hkx hx il mk ln hu1 hu2 hinv
    have hlen := ln.len
    have emp : (xs.map nI).length = xs.length := List.length_map ..
    have ek : k = xs.length := by omega
    refine zw_iload dL_law_369 rfl ?_
    refine zw_aload dL_law_371 rfl ?_
    refine zw_alen (t := 0) dL_law_373 il.1 (by decide) ?_
    rw [il.2.2.2.1]
    refine zw_icmpge (tgt := 506) dL_law_374 (by decide) (fun c374 => ?_) (fun c374 => ?_)
    · refine zw_iload dL_law_506 rfl ?_
      refine zw_ifne (tgt := 513) dL_law_508 (by decide) (fun c508 => ?_) (fun c508 => ?_)
      · refine zw_loc (lc' := [(0, .ref 0), (1, .ref 1), (2, .ref 30), (3, .int (nI n)), (4, .ref fa), (5, .int (nI q))]) (zsub_cons rfl (zsub_cons rfl (zsub_cons rfl (zsub_cons rfl (zsub_cons rfl (zsub_cons rfl zsub_nil)))))) ?_
        exact KF σ _ _ hx (by omega) (by omega)
      · exfalso
        exact line_no ln.1 (fun k' x hx' => hinv (zb_0.mp c508) k' x (by have := (List.getElem?_eq_some_iff.mp hx').1; omega) hx') ln.2.2 hwit
    · exact absurd (nI_le (show (xs.map nI).length ≤ k by omega) (by omega)) c374
  | succ d ih =>
    intro k σ xs cs la uc us hd hkx hx il mk ln hu1 hu2 hinv
    have hlen := ln.len
    have emp : (xs.map nI).length = xs.length := List.length_map ..
    have wl := wl0.x hx
    by_cases hk : k < xs.length
    rotate_left
    · have ek : k = xs.length := by omega
      refine zw_iload dL_law_369 rfl ?_
      refine zw_aload dL_law_371 rfl ?_
      refine zw_alen (t := 0) dL_law_373 il.1 (by decide) ?_
      rw [il.2.2.2.1]
      refine zw_icmpge (tgt := 506) dL_law_374 (by decide) (fun c374 => ?_) (fun c374 => ?_)
      · refine zw_iload dL_law_506 rfl ?_
        refine zw_ifne (tgt := 513) dL_law_508 (by decide) (fun c508 => ?_) (fun c508 => ?_)
        · refine zw_loc (lc' := [(0, .ref 0), (1, .ref 1), (2, .ref 30), (3, .int (nI n)), (4, .ref fa), (5, .int (nI q))]) (zsub_cons rfl (zsub_cons rfl (zsub_cons rfl (zsub_cons rfl (zsub_cons rfl (zsub_cons rfl zsub_nil)))))) ?_
          exact KF σ _ _ hx (by omega) (by omega)
        · exfalso
          exact line_no ln.1 (fun k' x hx' => hinv (zb_0.mp c508) k' x (by have := (List.getElem?_eq_some_iff.mp hx').1; omega) hx') ln.2.2 hwit
      · exact absurd (nI_le (show (xs.map nI).length ≤ k by omega) (by omega)) c374
    have hak : xs[k]? = some xs[k] := List.getElem?_eq_getElem hk
    have hat : xs[k] < n := (ln.2.1 _ (List.getElem_mem hk)).1
    have ha2 : (xs.map nI)[k]? = some (nI xs[k]) := by rw [List.getElem?_map, hak]; rfl
    generalize xs[k] = at_ at hak hat ha2
    have hE20 := wl.1.len hat
    refine zw_iload dL_law_369 rfl ?_
    refine zw_aload dL_law_371 rfl ?_
    refine zw_alen (t := 0) dL_law_373 il.1 (by decide) ?_
    rw [il.2.2.2.1]
    refine zw_icmpge (tgt := 506) dL_law_374 (by decide) (fun c374 => ?_) (fun c374 => ?_)
    · exact absurd c374 (nI_ge (show k < (xs.map nI).length by omega) (by omega))
    · refine zw_aload dL_law_377 rfl ?_
      refine zw_iload dL_law_379 rfl ?_
      refine zw_iaload dL_law_381 il.1 (zin_of il.2.2.2.1 (vp_in_nI (show k < (xs.map nI).length by omega) (by omega))) ?_
      rw [nI_clamp (show k < 2 ^ 31 by omega), il.2.2.2.2 k _ ha2]
      refine zw_istore dL_law_382 (by decide) rfl ?_
      refine zw_iload dL_law_384 rfl ?_
      refine zw_ifne (tgt := 400) dL_law_386 (by decide) (fun c386 => ?_) (fun c386 => ?_)
      · refine zw_iconst (x := 1) dL_law_400 rfl ?_
        refine zw_goto (tgt := 405) dL_law_401 (by decide) ?_
        refine zw_istore dL_law_405 (by decide) rfl ?_
        refine zw_iconst (x := 0) dL_law_407 rfl ?_
        refine zw_istore dL_law_408 (by decide) rfl ?_
        refine zw_loc (lc' := [(0, .ref 0), (1, .ref 1), (2, .ref 30), (3, .int (nI n)), (4, .ref fa), (5, .int (nI q)), (8, .ref la), (9, .ref ib), (10, .int (zb true)), (11, .int (nI k)), (12, .int (nI at_)), (13, .int (nI 0))]) (zsub_cons rfl (zsub_cons rfl (zsub_cons rfl (zsub_cons rfl (zsub_cons rfl (zsub_cons rfl (zsub_cons rfl (zsub_cons rfl (zsub_cons rfl (zsub_cons rfl (zsub_cons rfl (zsub_cons rfl zsub_nil)))))))))))) ?_
        refine lp_s1 wl0 hq hat ?_ (E at_).length 0 σ xs true la _ _ (Nat.zero_add _) hx il mk ln (by omega) (by omega) hak (fun z => by cases z)
        intro σ2 xs2 cs2 la2 uc2 us2 hx2 il2 mk2 ln2 hv1 hv2 hk2 hinv2
        refine zw_iinc dL_law_500 rfl (by decide) rfl ?_
        refine zw_goto (tgt := 369) dL_law_503 (by decide) ?_
        refine zw_loc (lc' := [(0, .ref 0), (1, .ref 1), (2, .ref 30), (3, .int (nI n)), (4, .ref fa), (5, .int (nI q)), (8, .ref la2), (9, .ref ib), (10, .int (zb cs2)), (11, .int (nI k + 1))]) (zsub_cons rfl (zsub_cons rfl (zsub_cons rfl (zsub_cons rfl (zsub_cons rfl (zsub_cons rfl (zsub_cons rfl (zsub_cons rfl (zsub_cons rfl (zsub_cons rfl zsub_nil)))))))))) ?_
        rw [nI_1]
        exact ih (k + 1) σ2 xs2 cs2 la2 uc2 us2 (by omega) (by have := (List.getElem?_eq_some_iff.mp hk2).1; omega) hx2 il2 mk2 ln2 hv1 hv2 (fun z => (hinv2 z).2.done (hinv2 z).1 hk2)
      · refine zw_aload_n dL_law_389 rfl ?_
        refine zw_iload dL_law_390 rfl ?_
        refine zw_bipush (x := 9) dL_law_392 rfl ?_
        refine zw_callV (y' := zmX5_state) dL_law_394 zlL_89 zmX5_state_ok (xk_1 wl.1.1) (by decide) rfl (c_X5_state_9 wl.1.1 (wl.1.st hat).1 (wl.1.st hat).2.1 hat (wl.1.st hat).2.2.1 (wl.1.st hat).2.2.2.1) rfl rfl (Nat.le_of_ble_eq_true rfl) ⟨Nat.le_of_ble_eq_true rfl, Nat.le_of_ble_eq_true rfl⟩ ⟨by show _ ≤ 600086; omega, by show _ ≤ 7301442; omega⟩ ?_
        intro v394 s394 q394
        obtain ⟨rfl, z394⟩ := q394
        rw [z394]
        clear z394
        refine zw_ifne (tgt := 404) dL_law_397 (by decide) (fun c397 => ?_) (fun c397 => ?_)
        · refine zw_iconst (x := 0) dL_law_404 rfl ?_
          refine zw_istore dL_law_405 (by decide) rfl ?_
          refine zw_iconst (x := 0) dL_law_407 rfl ?_
          refine zw_istore dL_law_408 (by decide) rfl ?_
          refine zw_loc (lc' := [(0, .ref 0), (1, .ref 1), (2, .ref 30), (3, .int (nI n)), (4, .ref fa), (5, .int (nI q)), (8, .ref la), (9, .ref ib), (10, .int (zb false)), (11, .int (nI k)), (12, .int (nI at_)), (13, .int (nI 0))]) (zsub_cons rfl (zsub_cons rfl (zsub_cons rfl (zsub_cons rfl (zsub_cons rfl (zsub_cons rfl (zsub_cons rfl (zsub_cons rfl (zsub_cons rfl (zsub_cons rfl (zsub_cons rfl (zsub_cons rfl zsub_nil)))))))))))) ?_
          refine lp_s1 wl0 hq hat ?_ (E at_).length 0 σ xs false la _ _ (Nat.zero_add _) hx il mk ln (by omega) (by omega) hak (fun _ => ⟨hinv (zb_0.mp c386), fun q => c397 (by rw [q]; rfl), fun j y hj => absurd hj (Nat.not_lt_zero j)⟩)
          intro σ2 xs2 cs2 la2 uc2 us2 hx2 il2 mk2 ln2 hv1 hv2 hk2 hinv2
          refine zw_iinc dL_law_500 rfl (by decide) rfl ?_
          refine zw_goto (tgt := 369) dL_law_503 (by decide) ?_
          refine zw_loc (lc' := [(0, .ref 0), (1, .ref 1), (2, .ref 30), (3, .int (nI n)), (4, .ref fa), (5, .int (nI q)), (8, .ref la2), (9, .ref ib), (10, .int (zb cs2)), (11, .int (nI k + 1))]) (zsub_cons rfl (zsub_cons rfl (zsub_cons rfl (zsub_cons rfl (zsub_cons rfl (zsub_cons rfl (zsub_cons rfl (zsub_cons rfl (zsub_cons rfl (zsub_cons rfl zsub_nil)))))))))) ?_
          rw [nI_1]
          exact ih (k + 1) σ2 xs2 cs2 la2 uc2 us2 (by omega) (by have := (List.getElem?_eq_some_iff.mp hk2).1; omega) hx2 il2 mk2 ln2 hv1 hv2 (fun z => (hinv2 z).2.done (hinv2 z).1 hk2)
        · refine zw_iconst (x := 1) dL_law_400 rfl ?_
          refine zw_goto (tgt := 405) dL_law_401 (by decide) ?_
          refine zw_istore dL_law_405 (by decide) rfl ?_
          refine zw_iconst (x := 0) dL_law_407 rfl ?_
          refine zw_istore dL_law_408 (by decide) rfl ?_
          refine zw_loc (lc' := [(0, .ref 0), (1, .ref 1), (2, .ref 30), (3, .int (nI n)), (4, .ref fa), (5, .int (nI q)), (8, .ref la), (9, .ref ib), (10, .int (zb true)), (11, .int (nI k)), (12, .int (nI at_)), (13, .int (nI 0))]) (zsub_cons rfl (zsub_cons rfl (zsub_cons rfl (zsub_cons rfl (zsub_cons rfl (zsub_cons rfl (zsub_cons rfl (zsub_cons rfl (zsub_cons rfl (zsub_cons rfl (zsub_cons rfl (zsub_cons rfl zsub_nil)))))))))))) ?_
          refine lp_s1 wl0 hq hat ?_ (E at_).length 0 σ xs true la _ _ (Nat.zero_add _) hx il mk ln (by omega) (by omega) hak (fun z => by cases z)
          intro σ2 xs2 cs2 la2 uc2 us2 hx2 il2 mk2 ln2 hv1 hv2 hk2 hinv2
          refine zw_iinc dL_law_500 rfl (by decide) rfl ?_
          refine zw_goto (tgt := 369) dL_law_503 (by decide) ?_
          refine zw_loc (lc' := [(0, .ref 0), (1, .ref 1), (2, .ref 30), (3, .int (nI n)), (4, .ref fa), (5, .int (nI q)), (8, .ref la2), (9, .ref ib), (10, .int (zb cs2)), (11, .int (nI k + 1))]) (zsub_cons rfl (zsub_cons rfl (zsub_cons rfl (zsub_cons rfl (zsub_cons rfl (zsub_cons rfl (zsub_cons rfl (zsub_cons rfl (zsub_cons rfl (zsub_cons rfl zsub_nil)))))))))) ?_
          rw [nI_1]
          exact ih (k + 1) σ2 xs2 cs2 la2 uc2 us2 (by omega) (by have := (List.getElem?_eq_some_iff.mp hk2).1; omega) hx2 il2 mk2 ln2 hv1 hv2 (fun z => (hinv2 z).2.done (hinv2 z).1 hk2)
set_option maxHeartbeats 4000000 in
set_option maxRecDepth 100000 in
theorem lp_s3 {l : Launch} {σ0 : zS} {ls G : List Int32} {pk n fa : Nat} {fs dep par pst : Nat → Nat} {E : Nat → List Nat} (wl0 : wL σ0 ls G pk n fs dep par pst E fa) {q s0 : Nat} (hq : q < 8) (hs0 : s0 < n) (hws : (wW σ0 q) s0 = true) (hwit : tWit E (wW σ0 q) s0) (KF : ∀ (σ : zS) (uc us : Nat), zX σ0 σ → uc ≤ 600086 → us ≤ 7301442 → zAW l zmL_lw { frames := 10, cells := 600086, slots := 7301442, locals := 360 } 513 [(0, .ref 0), (1, .ref 1), (2, .ref 30), (3, .int (nI n)), (4, .ref fa), (5, .int (nI q))] [] σ uc us (fun v _ => v = some (.int 1))) {uc us : Nat} (hu1 : uc ≤ 504390) (hu2 : us ≤ 5667380) : zAW l zmL_lw { frames := 10, cells := 600086, slots := 7301442, locals := 360 } 342 [(0, .ref 0), (1, .ref 1), (2, .ref 30), (3, .int (nI n)), (4, .ref fa), (5, .int (nI q)), (7, .int (nI s0))] [] σ0 uc us (fun v _ => v = some (.int 1)) := by
  have hn := wl0.1.2.2.2.2.1.2.1
  have h30 := wl0.2.2.2.2.1.2.1
  refine zw_iconst (x := 1) dL_law_342 rfl ?_
  refine zw_newI (N := 1) dL_law_343 rfl (Nat.le_of_ble_eq_true rfl) ⟨by show _ ≤ 600086; omega, by show _ ≤ 7301442; omega⟩ ?_
  have x1 : zX σ0 (znA1 σ0 0 1) := (zX.rf σ0).A1 0 1
  have il : iI (znA1 σ0 0 1) (zn σ0) [0] := ⟨by rw [zK_znA1, if_pos rfl], by omega, Nat.lt_succ_self _, by rw [zL_znA1, if_pos rfl]; rfl, fun i x z => by
    rw [zI_znA1, if_pos rfl]
    match i, z with
    | 0, z => exact Option.some.inj z
    | i + 1, z => cases z⟩
  have hz1 : zn (znA1 σ0 0 1) = zn σ0 + 1 := rfl
  generalize znA1 σ0 0 1 = σa at x1 il hz1 ⊢
  refine zw_dup dL_law_345 rfl ?_
  refine zw_iconst (x := 0) dL_law_346 rfl ?_
  refine zw_iload dL_law_347 rfl ?_
  refine zw_iastore dL_law_349 il.1 il.2.1 (zin_of il.2.2.2.1 (show vp_in 0 1 by unfold vp_in; decide)) ?_
  rw [show Int32.toNatClampNeg 0 = 0 from by decide]
  have il : iI (zsI σa (zn σ0) 0 (nI s0)) (zn σ0) ([s0].map nI) := il.set 0 (nI s0)
  have x1 : zX σ0 (zsI σa (zn σ0) 0 (nI s0)) := x1.I (Nat.le_refl _)
  have hz1 : zn (zsI σa (zn σ0) 0 (nI s0)) = zn σ0 + 1 := hz1
  generalize zsI σa (zn σ0) 0 (nI s0) = σb at x1 il hz1 ⊢
  refine zw_astore dL_law_350 (by decide) rfl ?_
  refine zw_iload_n dL_law_352 rfl ?_
  refine zw_newZ (N := n) dL_law_353 rfl (by omega) ⟨by show _ ≤ 600086; omega, by show _ ≤ 7301442; omega⟩ ?_
  have x2 : zX σb (znA1 σb 1 n) := (zX.rf σb).A1 1 n
  have il := il.x x2
  have hx := x1.tr x2
  have mk : mk_ σ0 (znA1 σb 1 n) (zn σb) n [] := ⟨by rw [zK_znA1, if_pos rfl], by rw [zL_znA1, if_pos rfl], by omega, Nat.lt_succ_self _, fun t ht => by rw [zI_znA1, if_pos rfl, decide_eq_false List.not_mem_nil]; rfl⟩
  generalize hib : zn σb = ib at mk
  generalize znA1 σb 1 n = σc at hx il mk ⊢
  refine zw_astore dL_law_355 (by decide) rfl ?_
  refine zw_aload dL_law_357 rfl ?_
  refine zw_iload dL_law_359 rfl ?_
  refine zw_iconst (x := 1) dL_law_361 rfl ?_
  refine zw_bastore dL_law_362 mk.1 rfl (zin_of mk.2.1 (vp_in_nI hs0 (by omega))) ?_
  rw [nI_clamp (show s0 < 2 ^ 31 by omega)]
  have il : iI (zsI σc ib s0 1) (zn σ0) ([s0].map nI) := il.ne (fun e => by have := mk.1; rw [← e, il.1] at this; exact absurd this (by decide))
  have hx : zX σ0 (zsI σc ib s0 1) := hx.I mk.2.2.1
  have mk : mk_ σ0 (zsI σc ib s0 1) ib n [s0] := mk.add
  refine zw_iconst (x := 0) dL_law_363 rfl ?_
  refine zw_istore dL_law_364 (by decide) rfl ?_
  refine zw_iconst (x := 0) dL_law_366 rfl ?_
  refine zw_istore dL_law_367 (by decide) rfl ?_
  refine zw_loc (lc' := [(0, .ref 0), (1, .ref 1), (2, .ref 30), (3, .int (nI n)), (4, .ref fa), (5, .int (nI q)), (8, .ref (zn σ0)), (9, .ref ib), (10, .int (zb false)), (11, .int (nI 0))]) (zsub_cons rfl (zsub_cons rfl (zsub_cons rfl (zsub_cons rfl (zsub_cons rfl (zsub_cons rfl (zsub_cons rfl (zsub_cons rfl (zsub_cons rfl (zsub_cons rfl zsub_nil)))))))))) ?_
  exact lp_s2 wl0 hq hwit KF n 0 _ [s0] false (zn σ0) _ _ (Nat.zero_add _) (Nat.zero_le _) hx il mk ⟨List.nodup_cons.mpr ⟨List.not_mem_nil, List.nodup_nil⟩, fun x z => by rw [List.mem_singleton.mp z]; exact ⟨hs0, hws⟩, List.mem_cons_self⟩ (show _ ≤ 504400 + 1 by omega) (show _ ≤ 5667400 + 402 * 1 by omega) (fun _ k' x h => absurd h (Nat.not_lt_zero k'))
