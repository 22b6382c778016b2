/-! the law's last run as a whole; leads and isBad in the law's world -/
theorem wL.tr {σ : zS} {ls G : List Int32} {pk n fa : Nat} {fs dep par pst : Nat → Nat} {E : Nat → List Nat} (wl : wL σ ls G pk n fs dep par pst E fa) {q s : Nat} (hq : q < 8) (hs : s < n) : zR σ fa q = some (fa + 1 + q) ∧ zK σ (fa + 1 + q) = 101 ∧ zL σ (fa + 1 + q) = n ∧ zI σ (fa + 1 + q) s = zb (xHold σ q (zI σ 9 s)) := by
  obtain ⟨-, -, -, ⟨-, ⟨-, -, -, b⟩, t⟩, -⟩ := wl
  obtain ⟨c1, c2, c3⟩ := b q hq
  exact ⟨c1, c2, c3, t q hq s hs⟩
theorem c_isBad {l : Launch} {σ : zS} {ls G : List Int32} {pk n fa : Nat} {fs dep par pst : Nat → Nat} {E : Nat → List Nat} (wl : wL σ ls G pk n fs dep par pst E fa) {q s : Nat} (hq : q < 8) (hs : s < n) (wq : wQ σ n E (wW σ q) q) : zAM l zmX5_isBad 6 148 0 0 [.ref 1, .int (nI q), .int (nI s)] σ (fun v σ' => xTg σ σ' ∧ zF σ' 4 11 21 = nI q ∧ (zF σ 4 11 21 = nI q → σ' = σ) ∧ ∃ bad, (∀ t, t < n → zI σ' 24 t = zb (bad t)) ∧ tDone n E (wW σ q) bad ∧ v = some (.int (zb (bad s)))) := by
  obtain ⟨x1, ⟨x2, x3⟩, ⟨x4, x5⟩, ⟨x6, x7⟩, x8, x9, -, -⟩ := wl.1
  have e : zF σ 2 5 2 = nI ls.length := x2
  exact c_X5_isBad x1 x8.2.1 x4 wl.2.2.1 (by decide) hq (fun _ _ => rfl) hs x8 x7 (fun t ht z => (x9 t ht).1 (by rw [e] at z; exact z)) (fun t ht => (x9 t ht).2) x6 x4 wq
theorem c_leads {l : Launch} {σ : zS} {ls G : List Int32} {pk n fa : Nat} {fs dep par pst : Nat → Nat} {E : Nat → List Nat} (wl : wL σ ls G pk n fs dep par pst E fa) {p q : Nat} (hp : p < 8) (hq : q < 8) (wq : wQ σ n E (wW σ q) q) : zAM l zmX5_leads 6 148 0 0 [.ref 1, .int (nI p), .int (nI q)] σ (fun v σ' => xTg σ σ' ∧ zF σ' 4 11 21 = nI q ∧ (zF σ 4 11 21 = nI q → σ' = σ) ∧ ∃ bad, (∀ t, t < n → zI σ' 24 t = zb (bad t)) ∧ tDone n E (wW σ q) bad ∧ ((∃ s, s < n ∧ v = some (.int (nI s)) ∧ bad s = true ∧ xHold σ p (zI σ 9 s) = true) ∨ (v = some (.int (-1)) ∧ ∀ s, s < n → bad s = true → xHold σ p (zI σ 9 s) = false))) := by
  obtain ⟨x1, ⟨x2, x3⟩, ⟨x4, x5⟩, ⟨x6, x7⟩, x8, x9, -, -⟩ := wl.1
  have e : zF σ 2 5 2 = nI ls.length := x2
  exact c_X5_leads x1 x8.2.1 x4 wl.2.2.1 (by decide) hq (fun _ _ => rfl) hp x5 x8 x7 (fun t ht z => (x9 t ht).1 (by rw [e] at z; exact z)) (fun t ht => (x9 t ht).2) x6 x4 wq
theorem wW.t {σ σ' : zS} {q : Nat} (h : xTg σ σ') : wW σ' q = wW σ q := by
  obtain ⟨t1, t2, t3, t4, t5, t6, t7, t8⟩ := h
  funext s
  unfold wW
  rw [t8 9 (by decide), xHold_cg (t8 18 (by decide)) (t8 19 (by decide)) (t8 20 (by decide))]
set_option maxHeartbeats 4000000 in
set_option maxRecDepth 100000 in
theorem lp_r4 {l : Launch} {σ : zS} {ls G : List Int32} {pk n fa : Nat} {fs dep par pst : Nat → Nat} {E : Nat → List Nat} (wl : wL σ ls G pk n fs dep par pst E fa) {q : Nat} {bad : Nat → Bool} (hq : q < 8) (hdn : tDone n E (wW σ q) bad) {at_ uc us : Nat} (hat : at_ < n) (hinv : (xHold σ q (zI σ 9 at_) = false → bad at_ = true → bad 0 = true)) (hu1 : uc ≤ 600086) (hu2 : us ≤ 7301442) : zAW l zmL_lw { frames := 10, cells := 600086, slots := 7301442, locals := 360 } 719 [(0, .ref 0), (1, .ref 1), (2, .ref 30), (3, .int (nI n)), (8, .int (nI at_)), (10, .int (zb (xHold σ q (zI σ 9 at_)))), (11, .int (zb (bad 0)))] [] σ uc us (fun v _ => v = some (.int 1)) := by
  have hE20 := wl.1.len hat
  refine zw_iload dL_law_719 rfl ?_
  refine zw_ifne (tgt := 740) dL_law_721 (by decide) (fun c721 => ?_) (fun c721 => ?_)
  · refine zw_iconst (x := 1) dL_law_740 rfl ?_
    refine zw_goto (tgt := 745) dL_law_741 (by decide) ?_
    refine zw_iret dL_law_745 rfl rfl ?_
    rfl
  · refine zw_aload_n dL_law_724 rfl ?_
    refine zw_iload dL_law_725 rfl ?_
    refine zw_bipush (x := 9) dL_law_727 rfl ?_
    refine zw_callV (y' := zmX5_state) dL_law_729 zlL_89 zmX5_state_ok (xk_1 wl.1.1) (by decide) rfl (c_X5_state_9 wl.1.1 (wl.1.st hat).1 (wl.1.st hat).2.1 hat (wl.1.st hat).2.2.1 (wl.1.st hat).2.2.2.1) rfl rfl (Nat.le_of_ble_eq_true rfl) ⟨Nat.le_of_ble_eq_true rfl, Nat.le_of_ble_eq_true rfl⟩ ⟨by show _ ≤ 600086; omega, by show _ ≤ 7301442; omega⟩ ?_
    intro v729 s729 q729
    obtain ⟨rfl, z729⟩ := q729
    rw [z729]
    clear z729
    refine zw_ifgt (tgt := 740) dL_law_732 (by decide) (fun c732 => ?_) (fun c732 => ?_)
    · refine zw_iconst (x := 1) dL_law_740 rfl ?_
      refine zw_goto (tgt := 745) dL_law_741 (by decide) ?_
      refine zw_iret dL_law_745 rfl rfl ?_
      rfl
    · refine zw_iload dL_law_735 rfl ?_
      refine zw_ifeq (tgt := 744) dL_law_737 (by decide) (fun c737 => ?_) (fun c737 => ?_)
      · exfalso
        have h1 := zb_0.mp c721
        have h2 : (E at_).length = 0 := Nat.eq_zero_of_not_pos (fun q => c732 (nI_lt (a := 0) q (by omega)))
        have h3 : wW σ q at_ = true := by unfold wW; rw [h1]; rfl
        have h4 := hinv h1 ((hdn.2 at_ hat h3).1 (List.eq_nil_of_length_eq_zero h2))
        rw [h4] at c737
        exact absurd c737 (by decide)
      · refine zw_iconst (x := 1) dL_law_740 rfl ?_
        refine zw_goto (tgt := 745) dL_law_741 (by decide) ?_
        refine zw_iret dL_law_745 rfl rfl ?_
        rfl
set_option maxHeartbeats 4000000 in
set_option maxRecDepth 100000 in
theorem lp_r5 {l : Launch} {σ : zS} {ls G : List Int32} {pk n fa : Nat} {fs dep par pst : Nat → Nat} {E : Nat → List Nat} (wl : wL σ ls G pk n fs dep par pst E fa) {q : Nat} {bad : Nat → Bool} (hq : q < 8) (hdn : tDone n E (wW σ q) bad) (h1 : 1 ≤ ls.length) {uc us : Nat} (hu1 : uc ≤ 600086) (hu2 : us ≤ 7301442) : ∀ (d time at_ turn : Nat), time + d = 4 * n + 40 → at_ < n → turn < ls.length → (xHold σ q (zI σ 9 at_) = false → bad at_ = true → bad 0 = true) → zAW l zmL_lw { frames := 10, cells := 600086, slots := 7301442, locals := 360 } 540 [(0, .ref 0), (1, .ref 1), (2, .ref 30), (3, .int (nI n)), (4, .ref fa), (5, .int (nI q)), (8, .int (nI at_)), (9, .int (nI turn)), (10, .int (zb (xHold σ q (zI σ 9 at_)))), (11, .int (zb (bad 0))), (12, .int (nI time))] [] σ uc us (fun v _ => v = some (.int 1)) := by
  have hn := wl.1.2.2.2.2.1.2.1
  intro d
  induction d with
  | zero =>
    intro time at_ turn hd hat ht hinv
    refine zw_iload dL_law_540 rfl ?_
    refine zw_iconst (x := 4) dL_law_542 rfl ?_
    refine zw_iload_n dL_law_543 rfl ?_
    refine zw_imul dL_law_544 ?_
    rw [show (4 : Int32) * nI n = nI (4 * n) from pk_mul 4 n]
    refine zw_bipush (x := 40) dL_law_545 rfl ?_
    refine zw_iadd dL_law_547 ?_
    rw [show nI (4 * n) + (40 : Int32) = nI (4 * n + 40) from nI_add _ 40]
    refine zw_icmpge (tgt := 719) dL_law_548 (by decide) (fun c548 => ?_) (fun c548 => ?_)
    · refine zw_loc (lc' := [(0, .ref 0), (1, .ref 1), (2, .ref 30), (3, .int (nI n)), (8, .int (nI at_)), (10, .int (zb (xHold σ q (zI σ 9 at_)))), (11, .int (zb (bad 0)))]) (zsub_cons rfl (zsub_cons rfl (zsub_cons rfl (zsub_cons rfl (zsub_cons rfl (zsub_cons rfl (zsub_cons rfl zsub_nil))))))) ?_
      refine zw_room (uc' := uc) (us' := us) (by omega) (by omega) ⟨hu1, hu2⟩ ?_
      exact lp_r4 wl hq hdn hat hinv hu1 hu2
    · exact absurd (nI_le (show 4 * n + 40 ≤ time by omega) (by omega)) c548
  | succ d ih =>
    intro time at_ turn hd hat ht hinv
    have hE20 := wl.1.len hat
    refine zw_iload dL_law_540 rfl ?_
    refine zw_iconst (x := 4) dL_law_542 rfl ?_
    refine zw_iload_n dL_law_543 rfl ?_
    refine zw_imul dL_law_544 ?_
    rw [show (4 : Int32) * nI n = nI (4 * n) from pk_mul 4 n]
    refine zw_bipush (x := 40) dL_law_545 rfl ?_
    refine zw_iadd dL_law_547 ?_
    rw [show nI (4 * n) + (40 : Int32) = nI (4 * n + 40) from nI_add _ 40]
    refine zw_icmpge (tgt := 719) dL_law_548 (by decide) (fun c548 => ?_) (fun c548 => ?_)
    · refine zw_loc (lc' := [(0, .ref 0), (1, .ref 1), (2, .ref 30), (3, .int (nI n)), (8, .int (nI at_)), (10, .int (zb (xHold σ q (zI σ 9 at_)))), (11, .int (zb (bad 0)))]) (zsub_cons rfl (zsub_cons rfl (zsub_cons rfl (zsub_cons rfl (zsub_cons rfl (zsub_cons rfl (zsub_cons rfl zsub_nil))))))) ?_
      refine zw_room (uc' := uc) (us' := us) (by omega) (by omega) ⟨hu1, hu2⟩ ?_
      exact lp_r4 wl hq hdn hat hinv hu1 hu2
    · refine zw_aload_n dL_law_551 rfl ?_
      refine zw_iload dL_law_552 rfl ?_
      refine zw_bipush (x := 9) dL_law_554 rfl ?_
      refine zw_callV (y' := zmX5_state) dL_law_556 zlL_89 zmX5_state_ok (xk_1 wl.1.1) (by decide) rfl (c_X5_state_9 wl.1.1 (wl.1.st hat).1 (wl.1.st hat).2.1 hat (wl.1.st hat).2.2.1 (wl.1.st hat).2.2.2.1) rfl rfl (Nat.le_of_ble_eq_true rfl) ⟨Nat.le_of_ble_eq_true rfl, Nat.le_of_ble_eq_true rfl⟩ ⟨by show _ ≤ 600086; omega, by show _ ≤ 7301442; omega⟩ ?_
      intro v556 s556 q556
      obtain ⟨rfl, z556⟩ := q556
      rw [z556]
      clear z556
      refine zw_ifle (tgt := 719) dL_law_559 (by decide) (fun c559 => ?_) (fun c559 => ?_)
      · refine zw_loc (lc' := [(0, .ref 0), (1, .ref 1), (2, .ref 30), (3, .int (nI n)), (8, .int (nI at_)), (10, .int (zb (xHold σ q (zI σ 9 at_)))), (11, .int (zb (bad 0)))]) (zsub_cons rfl (zsub_cons rfl (zsub_cons rfl (zsub_cons rfl (zsub_cons rfl (zsub_cons rfl (zsub_cons rfl zsub_nil))))))) ?_
        refine zw_room (uc' := uc) (us' := us) (by omega) (by omega) ⟨hu1, hu2⟩ ?_
        exact lp_r4 wl hq hdn hat hinv hu1 hu2
      · refine zw_iload dL_law_562 rfl ?_
        refine zw_ifne (tgt := 719) dL_law_564 (by decide) (fun c564 => ?_) (fun c564 => ?_)
        · refine zw_loc (lc' := [(0, .ref 0), (1, .ref 1), (2, .ref 30), (3, .int (nI n)), (8, .int (nI at_)), (10, .int (zb (xHold σ q (zI σ 9 at_)))), (11, .int (zb (bad 0)))]) (zsub_cons rfl (zsub_cons rfl (zsub_cons rfl (zsub_cons rfl (zsub_cons rfl (zsub_cons rfl (zsub_cons rfl zsub_nil))))))) ?_
          refine zw_room (uc' := uc) (us' := us) (by omega) (by omega) ⟨hu1, hu2⟩ ?_
          exact lp_r4 wl hq hdn hat hinv hu1 hu2
        · refine zw_aload_n dL_law_567 rfl ?_
          refine zw_iload dL_law_568 rfl ?_
          refine zw_bipush (x := 9) dL_law_570 rfl ?_
          refine zw_callV (y' := zmX5_state) dL_law_572 zlL_89 zmX5_state_ok (xk_1 wl.1.1) (by decide) rfl (c_X5_state_9 wl.1.1 (wl.1.st hat).1 (wl.1.st hat).2.1 hat (wl.1.st hat).2.2.1 (wl.1.st hat).2.2.2.1) rfl rfl (Nat.le_of_ble_eq_true rfl) ⟨Nat.le_of_ble_eq_true rfl, Nat.le_of_ble_eq_true rfl⟩ ⟨by show _ ≤ 600086; omega, by show _ ≤ 7301442; omega⟩ ?_
          intro v572 s572 q572
          obtain ⟨rfl, z572⟩ := q572
          rw [z572]
          clear z572
          refine zw_istore dL_law_575 (by decide) rfl ?_
          refine zw_iconst (x := -1) dL_law_577 rfl ?_
          refine zw_istore dL_law_578 (by decide) rfl ?_
          refine zw_iconst (x := 0) dL_law_580 rfl ?_
          refine zw_istore dL_law_581 (by decide) rfl ?_
          have hE : 0 < (E at_).length := Nat.pos_of_ne_zero (fun q => c559 (by rw [q]; decide))
          refine zw_loc (lc' := [(0, .ref 0), (1, .ref 1), (2, .ref 30), (3, .int (nI n)), (4, .ref fa), (5, .int (nI q)), (8, .int (nI at_)), (9, .int (nI turn)), (10, .int (zb (xHold σ q (zI σ 9 at_)))), (11, .int (zb (bad 0))), (12, .int (nI time)), (13, .int (nI (E at_).length)), (14, .int (-1)), (15, .int (nI 0))]) (zsub_cons rfl (zsub_cons rfl (zsub_cons rfl (zsub_cons rfl (zsub_cons rfl (zsub_cons rfl (zsub_cons rfl (zsub_cons rfl (zsub_cons rfl (zsub_cons rfl (zsub_cons rfl (zsub_cons rfl (zsub_cons rfl (zsub_cons rfl zsub_nil)))))))))))))) ?_
          refine zw_room (uc' := uc) (us' := us) (by omega) (by omega) ⟨hu1, hu2⟩ ?_
          refine lp_r2 wl hat (by omega) h1 hu1 hu2 hE ?_ ls.length 0 turn (-1) (Nat.zero_add _) ht (Or.inl rfl) (fun _ b' hb' => absurd hb' (Nat.not_lt_zero b'))
          intro turn2 τ by2 ht2 hτ
          have hgt : (E at_)[τ]? = some (E at_)[τ] := List.getElem?_eq_getElem hτ
          obtain ⟨t1, t2, -, -⟩ := wl.1.tg hat hgt
          obtain ⟨r1, r2, r3, r4⟩ := wl.tr hq t1
          refine zw_aload_n dL_law_692 rfl ?_
          refine zw_iload dL_law_693 rfl ?_
          refine zw_iload dL_law_695 rfl ?_
          refine zw_iconst (x := 0) dL_law_697 rfl ?_
          refine zw_callV (y' := zmX5_step) dL_law_698 zlL_95 zmX5_step_ok (xk_1 wl.1.1) (by decide) rfl (c_X5_step wl.1.1 (wl.1.st hat).1 (wl.1.st hat).2.1 hat (j := τ) (wl.1.st hat).2.2.1 (wl.1.st hat).2.2.2.1 hτ (wl.1.st hat).2.2.2.2.1 (wl.1.st hat).2.2.2.2.2.1 (wl.1.st hat).2.2.2.2.2.2 (w := 0) ⟨by decide, by decide⟩) rfl rfl (Nat.le_of_ble_eq_true rfl) ⟨Nat.le_of_ble_eq_true rfl, Nat.le_of_ble_eq_true rfl⟩ ⟨by show _ ≤ 600086; omega, by show _ ≤ 7301442; omega⟩ ?_
          intro v698 s698 q698
          obtain ⟨rfl, z698⟩ := q698
          rw [z698]
          clear z698
          rw [t2]
          refine zw_istore dL_law_701 (by decide) rfl ?_
          refine zw_aload dL_law_703 rfl ?_
          refine zw_iload dL_law_705 rfl ?_
          refine zw_aaload (t := 6) dL_law_707 wl.2.2.2.1.2.1.2.1 rfl (by decide) (zin_of wl.2.2.2.1.2.1.2.2.1 (vp_in_nI hq (by decide))) ?_
          rw [nI_clamp (show q < 2 ^ 31 by omega), r1]
          refine zw_iload dL_law_708 rfl ?_
          refine zw_baload dL_law_710 r2 (zin_of r3 (vp_in_nI t1 (by omega))) ?_
          rw [nI_clamp (show (E at_)[τ] < 2 ^ 31 by omega), r4]
          refine zw_istore dL_law_711 (by decide) rfl ?_
          refine zw_iinc dL_law_713 rfl (by decide) rfl ?_
          refine zw_goto (tgt := 540) dL_law_716 (by decide) ?_
          refine zw_loc (lc' := [(0, .ref 0), (1, .ref 1), (2, .ref 30), (3, .int (nI n)), (4, .ref fa), (5, .int (nI q)), (8, .int (nI (E at_)[τ])), (9, .int (nI turn2)), (10, .int (zb (xHold σ q (zI σ 9 (E at_)[τ])))), (11, .int (zb (bad 0))), (12, .int (nI time + 1))]) (zsub_cons rfl (zsub_cons rfl (zsub_cons rfl (zsub_cons rfl (zsub_cons rfl (zsub_cons rfl (zsub_cons rfl (zsub_cons rfl (zsub_cons rfl (zsub_cons rfl (zsub_cons rfl zsub_nil))))))))))) ?_
          rw [nI_1]
          refine zw_room (uc' := uc) (us' := us) (by omega) (by omega) ⟨hu1, hu2⟩ ?_
          exact ih (time + 1) (E at_)[τ] turn2 (by omega) t1 ht2 (fun z1 z2 => by
            have hw1 : wW σ q at_ = true := by
              unfold wW
              rw [zb_0.mp c564]
              rfl
            have hw2 : wW σ q (E at_)[τ] = true := by unfold wW; rw [z1]; rfl
            exact hinv (zb_0.mp c564) ((hdn.2 at_ hat hw1).2 _ (List.mem_of_getElem? hgt) hw2 z2))
set_option maxHeartbeats 4000000 in
set_option maxRecDepth 100000 in
theorem lp_r6 {l : Launch} {σ : zS} {ls G : List Int32} {pk n fa : Nat} {fs dep par pst : Nat → Nat} {E : Nat → List Nat} (wl : wL σ ls G pk n fs dep par pst E fa) {q : Nat} (hq : q < 8) (h1 : 1 ≤ ls.length) {uc us : Nat} (hu1 : uc ≤ 600086) (hu2 : us ≤ 7301442) (hlf : zF σ 4 11 21 = nI q) (wq : wQ σ n E (wW σ q) q) : zAW l zmL_lw { frames := 10, cells := 600086, slots := 7301442, locals := 360 } 513 [(0, .ref 0), (1, .ref 1), (2, .ref 30), (3, .int (nI n)), (4, .ref fa), (5, .int (nI q))] [] σ uc us (fun v _ => v = some (.int 1)) := by
  have h0 : 0 < n := wl.1.2.2.1.2
  have hn := wl.1.2.2.2.2.1.2.1
  obtain ⟨r1, r2, r3, r4⟩ := wl.tr hq h0
  refine zw_iconst (x := 0) dL_law_513 rfl ?_
  refine zw_istore dL_law_514 (by decide) rfl ?_
  refine zw_iconst (x := 0) dL_law_516 rfl ?_
  refine zw_istore dL_law_517 (by decide) rfl ?_
  refine zw_aload dL_law_519 rfl ?_
  refine zw_iload dL_law_521 rfl ?_
  refine zw_aaload (t := 6) dL_law_523 wl.2.2.2.1.2.1.2.1 rfl (by decide) (zin_of wl.2.2.2.1.2.1.2.2.1 (vp_in_nI hq (by decide))) ?_
  rw [nI_clamp (show q < 2 ^ 31 by omega), r1]
  refine zw_iconst (x := 0) dL_law_524 rfl ?_
  refine zw_baload dL_law_525 r2 (zin_of r3 (vp_in_nI (n := 0) h0 (by omega))) ?_
  rw [show Int32.toNatClampNeg 0 = 0 from by decide, r4]
  refine zw_istore dL_law_526 (by decide) rfl ?_
  refine zw_aload_n dL_law_528 rfl ?_
  refine zw_iload dL_law_529 rfl ?_
  refine zw_iconst (x := 0) dL_law_531 rfl ?_
  refine zw_callV (y' := zmX5_isBad) dL_law_532 zlL_105 zmX5_isBad_ok (xk_1 wl.1.1) (by decide) rfl (c_isBad wl hq h0 wq) rfl rfl (Nat.le_of_ble_eq_true rfl) ⟨Nat.le_of_ble_eq_true rfl, Nat.le_of_ble_eq_true rfl⟩ ⟨by show _ ≤ 600086; omega, by show _ ≤ 7301442; omega⟩ ?_
  intro v532 s532 q532
  obtain ⟨-, -, z1, bad, -, hdn, rfl⟩ := q532
  rw [z1 hlf]
  refine zw_istore dL_law_535 (by decide) rfl ?_
  refine zw_iconst (x := 0) dL_law_537 rfl ?_
  refine zw_istore dL_law_538 (by decide) rfl ?_
  refine zw_loc (lc' := [(0, .ref 0), (1, .ref 1), (2, .ref 30), (3, .int (nI n)), (4, .ref fa), (5, .int (nI q)), (8, .int (nI 0)), (9, .int (nI 0)), (10, .int (zb (xHold σ q (zI σ 9 0)))), (11, .int (zb (bad 0))), (12, .int (nI 0))]) (zsub_cons rfl (zsub_cons rfl (zsub_cons rfl (zsub_cons rfl (zsub_cons rfl (zsub_cons rfl (zsub_cons rfl (zsub_cons rfl (zsub_cons rfl (zsub_cons rfl (zsub_cons rfl zsub_nil))))))))))) ?_
  refine zw_room (uc' := uc) (us' := us) (by omega) (by omega) ⟨hu1, hu2⟩ ?_
  exact lp_r5 wl hq hdn h1 hu1 hu2 (4 * n + 40) 0 0 0 (Nat.zero_add _) h0 (by omega) (fun _ z => z)
