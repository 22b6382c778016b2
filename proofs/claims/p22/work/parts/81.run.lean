/-! the law's last run: the processes in turns -/
set_option maxHeartbeats 4000000 in
set_option maxRecDepth 100000 in
theorem lp_r1 {l : Launch} {σ : zS} {ls G : List Int32} {pk n fa : Nat} {fs dep par pst : Nat → Nat} {E : Nat → List Nat} (wl : wL σ ls G pk n fs dep par pst E fa) {q at_ turn time by_ pr uc us : Nat} {z10 z11 : Int32} {Q : Option Value → zS → Prop} (hat : at_ < n) (htm : time < 4000) (hpr : pr < 3) (hu1 : uc ≤ 600086) (hu2 : us ≤ 7301442) (hE : 0 < (E at_).length)
    (KE : ∀ (tk : Int32), (tk = -1 ∨ ∃ τ, τ < (E at_).length ∧ tk = nI τ) → (tk = -1 → ∀ j, j < (E at_).length → xPart (zI σ pk (fs at_ + j)) 1 ≠ nI pr) → zAW l zmL_lw { frames := 10, cells := 600086, slots := 7301442, locals := 360 } 669 [(0, .ref 0), (1, .ref 1), (2, .ref 30), (3, .int (nI n)), (4, .ref fa), (5, .int (nI q)), (8, .int (nI at_)), (9, .int (nI turn)), (10, .int z10), (11, .int z11), (12, .int (nI time)), (13, .int (nI (E at_).length)), (14, .int (tk)), (15, .int (nI by_)), (16, .int (nI pr)), (17, .int (nI (E at_).length))] [] σ uc us Q) :
    ∀ (d k : Nat) (tk : Int32), k + d = (E at_).length → (tk = -1 ∨ ∃ τ, τ < (E at_).length ∧ tk = nI τ) → (tk = -1 → ∀ k', k' < k → xPart (zI σ pk (fs at_ + (k' + time) % (E at_).length)) 1 ≠ nI pr) → zAW l zmL_lw { frames := 10, cells := 600086, slots := 7301442, locals := 360 } 614 [(0, .ref 0), (1, .ref 1), (2, .ref 30), (3, .int (nI n)), (4, .ref fa), (5, .int (nI q)), (8, .int (nI at_)), (9, .int (nI turn)), (10, .int z10), (11, .int z11), (12, .int (nI time)), (13, .int (nI (E at_).length)), (14, .int (tk)), (15, .int (nI by_)), (16, .int (nI pr)), (17, .int (nI k))] [] σ uc us Q := by
  have hE20 := wl.1.len hat
  intro d
  induction d with
  | zero =>
    intro k tk hd htk hno
    refine zw_iload dL_law_614 rfl ?_
    refine zw_iload dL_law_616 rfl ?_
    refine zw_icmpge (tgt := 669) dL_law_618 (by decide) (fun c618 => ?_) (fun c618 => ?_)
    · have e : k = (E at_).length := by omega
      subst e
      refine zw_room (Nat.le_refl _) (Nat.le_refl _) ⟨hu1, hu2⟩ ?_
      exact KE tk htk (fun q j hj => by
        obtain ⟨k', k1, k2⟩ := zq_find (time := time) hj
        have := hno q k' k1
        rw [k2] at this
        exact this)
    · exact absurd (nI_le (show (E at_).length ≤ k by omega) (by omega)) c618
  | succ d ih =>
    intro k tk hd htk hno
    have hk : k < (E at_).length := by omega
    have hm := Nat.mod_lt (k + time) hE
    obtain ⟨p1, hp1, ep1⟩ : ∃ p1, p1 < ls.length ∧ xPart (zI σ pk (fs at_ + (k + time) % (E at_).length)) 1 = nI p1 := (wl.1.tg hat (List.getElem?_eq_getElem hm)).2.2.1
    have h3 := wl.1.2.1.2
    refine zw_iload dL_law_614 rfl ?_
    refine zw_iload dL_law_616 rfl ?_
    refine zw_icmpge (tgt := 669) dL_law_618 (by decide) (fun c618 => ?_) (fun c618 => ?_)
    · exact absurd c618 (nI_ge hk (by omega))
    · refine zw_iload dL_law_621 rfl ?_
      refine zw_iload dL_law_623 rfl ?_
      refine zw_iadd dL_law_625 ?_
      rw [nI_add]
      refine zw_iload dL_law_626 rfl ?_
      refine zw_irem dL_law_628 (nI_ne0 hE (by omega)) ?_
      rw [show nI (k + time) - nI (k + time) / nI (E at_).length * nI (E at_).length = nI ((k + time) % (E at_).length) from pk_rem (by omega) hE (by omega)]
      refine zw_istore dL_law_629 (by decide) rfl ?_
      refine zw_aload_n dL_law_631 rfl ?_
      refine zw_iload dL_law_632 rfl ?_
      refine zw_iload dL_law_634 rfl ?_
      refine zw_iconst (x := 1) dL_law_636 rfl ?_
      refine zw_callV (y' := zmX5_step) dL_law_637 zlL_95 zmX5_step_ok (xk_1 wl.1.1) (by decide) rfl (c_X5_step wl.1.1 (wl.1.st hat).1 (wl.1.st hat).2.1 hat (j := (k + time) % (E at_).length) (wl.1.st hat).2.2.1 (wl.1.st hat).2.2.2.1 hm (wl.1.st hat).2.2.2.2.1 (wl.1.st hat).2.2.2.2.2.1 (wl.1.st hat).2.2.2.2.2.2 (w := 1) ⟨by decide, by decide⟩) rfl rfl (Nat.le_of_ble_eq_true rfl) ⟨Nat.le_of_ble_eq_true rfl, Nat.le_of_ble_eq_true rfl⟩ ⟨by show _ ≤ 600086; omega, by show _ ≤ 7301442; omega⟩ ?_
      intro v637 s637 q637
      obtain ⟨rfl, z637⟩ := q637
      rw [z637]
      clear z637
      rw [ep1]
      refine zw_iload dL_law_640 rfl ?_
      refine zw_icmpeq (tgt := 659) dL_law_642 (by decide) (fun c642 => ?_) (fun c642 => ?_)
      · refine zw_iload dL_law_659 rfl ?_
        refine zw_istore dL_law_661 (by decide) rfl ?_
        refine zw_iinc dL_law_663 rfl (by decide) rfl ?_
        refine zw_goto (tgt := 614) dL_law_666 (by decide) ?_
        refine zw_loc (lc' := [(0, .ref 0), (1, .ref 1), (2, .ref 30), (3, .int (nI n)), (4, .ref fa), (5, .int (nI q)), (8, .int (nI at_)), (9, .int (nI turn)), (10, .int z10), (11, .int z11), (12, .int (nI time)), (13, .int (nI (E at_).length)), (14, .int (nI ((k + time) % (E at_).length))), (15, .int (nI by_)), (16, .int (nI pr)), (17, .int (nI k + 1))]) (zsub_cons rfl (zsub_cons rfl (zsub_cons rfl (zsub_cons rfl (zsub_cons rfl (zsub_cons rfl (zsub_cons rfl (zsub_cons rfl (zsub_cons rfl (zsub_cons rfl (zsub_cons rfl (zsub_cons rfl (zsub_cons rfl (zsub_cons rfl (zsub_cons rfl (zsub_cons rfl zsub_nil)))))))))))))))) ?_
        rw [nI_1]
        refine zw_room (uc' := uc) (us' := us) (by omega) (by omega) ⟨hu1, hu2⟩ ?_
        exact ih (k + 1) (nI ((k + time) % (E at_).length)) (by omega) (Or.inr ⟨_, hm, rfl⟩) (fun q => absurd q (nI_nm1 (by omega)))
      · refine zw_aload_n dL_law_645 rfl ?_
        refine zw_iload dL_law_646 rfl ?_
        refine zw_iload dL_law_648 rfl ?_
        refine zw_iconst (x := 3) dL_law_650 rfl ?_
        refine zw_callV (y' := zmX5_step) dL_law_651 zlL_95 zmX5_step_ok (xk_1 wl.1.1) (by decide) rfl (c_X5_step wl.1.1 (wl.1.st hat).1 (wl.1.st hat).2.1 hat (j := (k + time) % (E at_).length) (wl.1.st hat).2.2.1 (wl.1.st hat).2.2.2.1 hm (wl.1.st hat).2.2.2.2.1 (wl.1.st hat).2.2.2.2.2.1 (wl.1.st hat).2.2.2.2.2.2 (w := 3) ⟨by decide, by decide⟩) rfl rfl (Nat.le_of_ble_eq_true rfl) ⟨Nat.le_of_ble_eq_true rfl, Nat.le_of_ble_eq_true rfl⟩ ⟨by show _ ≤ 600086; omega, by show _ ≤ 7301442; omega⟩ ?_
        intro v651 s651 q651
        obtain ⟨rfl, z651⟩ := q651
        rw [z651]
        clear z651
        refine zw_iload dL_law_654 rfl ?_
        refine zw_icmpne (tgt := 663) dL_law_656 (by decide) (fun c656 => ?_) (fun c656 => ?_)
        · refine zw_iinc dL_law_663 rfl (by decide) rfl ?_
          refine zw_goto (tgt := 614) dL_law_666 (by decide) ?_
          refine zw_loc (lc' := [(0, .ref 0), (1, .ref 1), (2, .ref 30), (3, .int (nI n)), (4, .ref fa), (5, .int (nI q)), (8, .int (nI at_)), (9, .int (nI turn)), (10, .int z10), (11, .int z11), (12, .int (nI time)), (13, .int (nI (E at_).length)), (14, .int (tk)), (15, .int (nI by_)), (16, .int (nI pr)), (17, .int (nI k + 1))]) (zsub_cons rfl (zsub_cons rfl (zsub_cons rfl (zsub_cons rfl (zsub_cons rfl (zsub_cons rfl (zsub_cons rfl (zsub_cons rfl (zsub_cons rfl (zsub_cons rfl (zsub_cons rfl (zsub_cons rfl (zsub_cons rfl (zsub_cons rfl (zsub_cons rfl (zsub_cons rfl zsub_nil)))))))))))))))) ?_
          rw [nI_1]
          refine zw_room (uc' := uc) (us' := us) (by omega) (by omega) ⟨hu1, hu2⟩ ?_
          exact ih (k + 1) (tk) (by omega) htk (fun q k' hk' => by
            by_cases c : k' = k
            · rw [c, ep1]
              exact fun z => c642 z
            · exact hno q k' (by omega))
        · refine zw_iload dL_law_659 rfl ?_
          refine zw_istore dL_law_661 (by decide) rfl ?_
          refine zw_iinc dL_law_663 rfl (by decide) rfl ?_
          refine zw_goto (tgt := 614) dL_law_666 (by decide) ?_
          refine zw_loc (lc' := [(0, .ref 0), (1, .ref 1), (2, .ref 30), (3, .int (nI n)), (4, .ref fa), (5, .int (nI q)), (8, .int (nI at_)), (9, .int (nI turn)), (10, .int z10), (11, .int z11), (12, .int (nI time)), (13, .int (nI (E at_).length)), (14, .int (nI ((k + time) % (E at_).length))), (15, .int (nI by_)), (16, .int (nI pr)), (17, .int (nI k + 1))]) (zsub_cons rfl (zsub_cons rfl (zsub_cons rfl (zsub_cons rfl (zsub_cons rfl (zsub_cons rfl (zsub_cons rfl (zsub_cons rfl (zsub_cons rfl (zsub_cons rfl (zsub_cons rfl (zsub_cons rfl (zsub_cons rfl (zsub_cons rfl (zsub_cons rfl (zsub_cons rfl zsub_nil)))))))))))))))) ?_
          rw [nI_1]
          refine zw_room (uc' := uc) (us' := us) (by omega) (by omega) ⟨hu1, hu2⟩ ?_
          exact ih (k + 1) (nI ((k + time) % (E at_).length)) (by omega) (Or.inr ⟨_, hm, rfl⟩) (fun q => absurd q (nI_nm1 (by omega)))
set_option maxHeartbeats 4000000 in
set_option maxRecDepth 100000 in
theorem lp_r2 {l : Launch} {σ : zS} {ls G : List Int32} {pk n fa : Nat} {fs dep par pst : Nat → Nat} {E : Nat → List Nat} (wl : wL σ ls G pk n fs dep par pst E fa) {q at_ time uc us : Nat} {z10 z11 : Int32} {Q : Option Value → zS → Prop} (hat : at_ < n) (htm : time < 4000) (h1 : 1 ≤ ls.length) (hu1 : uc ≤ 600086) (hu2 : us ≤ 7301442) (hE : 0 < (E at_).length)
    (KE : ∀ (turn τ by_ : Nat), turn < ls.length → τ < (E at_).length → zAW l zmL_lw { frames := 10, cells := 600086, slots := 7301442, locals := 360 } 692 [(0, .ref 0), (1, .ref 1), (2, .ref 30), (3, .int (nI n)), (4, .ref fa), (5, .int (nI q)), (8, .int (nI at_)), (9, .int (nI turn)), (10, .int z10), (11, .int z11), (12, .int (nI time)), (13, .int (nI (E at_).length)), (14, .int (nI τ)), (15, .int (nI by_))] [] σ uc us Q) :
    ∀ (d by_ turn : Nat) (tk : Int32), by_ + d = ls.length → turn < ls.length → (tk = -1 ∨ ∃ τ, τ < (E at_).length ∧ tk = nI τ) → (tk = -1 → ∀ b', b' < by_ → ∀ j, j < (E at_).length → xPart (zI σ pk (fs at_ + j)) 1 ≠ nI ((turn + b') % ls.length)) → zAW l zmL_lw { frames := 10, cells := 600086, slots := 7301442, locals := 360 } 583 [(0, .ref 0), (1, .ref 1), (2, .ref 30), (3, .int (nI n)), (4, .ref fa), (5, .int (nI q)), (8, .int (nI at_)), (9, .int (nI turn)), (10, .int z10), (11, .int z11), (12, .int (nI time)), (13, .int (nI (E at_).length)), (14, .int (tk)), (15, .int (nI by_))] [] σ uc us Q := by
  have hE20 := wl.1.len hat
  have h3 := wl.1.2.1.2
  intro d
  induction d with
  | zero =>
    intro by_ turn tk hd ht htk hno
    obtain ⟨wk, w30, la, gl, l30, il⟩ := wl.2.2.2.2.1
    refine zw_iload dL_law_583 rfl ?_
    refine zw_aload_n dL_law_585 rfl ?_
    refine zw_getR dL_law_586 zfL_22 rfl wk (by decide) gl ?_
    refine zw_alen (t := 0) dL_law_589 il.1 (by decide) ?_
    rw [il.2.2.2.1]
    refine zw_icmpge (tgt := 692) dL_law_590 (by decide) (fun c590 => ?_) (fun c590 => ?_)
    · have hne : tk ≠ -1 := by
        intro q
        obtain ⟨p1, hp1, ep1⟩ : ∃ p1, p1 < ls.length ∧ xPart (zI σ pk (fs at_ + 0)) 1 = nI p1 := (wl.1.tg hat (List.getElem?_eq_getElem hE)).2.2.1
        obtain ⟨b, hb1, hb2⟩ : ∃ b, b < ls.length ∧ (turn + b) % ls.length = p1 := by
          obtain ⟨b, hb1, hb2⟩ := zq_find (time := turn) hp1
          exact ⟨b, hb1, by rw [Nat.add_comm]; exact hb2⟩
        exact hno q b (by omega) 0 hE (by rw [hb2]; exact ep1)
      obtain ⟨τ, t1, rfl⟩ := htk.resolve_left hne
      refine zw_room (uc' := uc) (us' := us) (by omega) (by omega) ⟨hu1, hu2⟩ ?_
      exact KE turn τ by_ ht t1
    · exact absurd (nI_le (show ls.length ≤ by_ by omega) (by omega)) c590
  | succ d ih =>
    intro by_ turn tk hd ht htk hno
    obtain ⟨wk, w30, la, gl, l30, il⟩ := wl.2.2.2.2.1
    have hmP := Nat.mod_lt (turn + by_) (show 0 < ls.length by omega)
    refine zw_iload dL_law_583 rfl ?_
    refine zw_aload_n dL_law_585 rfl ?_
    refine zw_getR dL_law_586 zfL_22 rfl wk (by decide) gl ?_
    refine zw_alen (t := 0) dL_law_589 il.1 (by decide) ?_
    rw [il.2.2.2.1]
    refine zw_icmpge (tgt := 692) dL_law_590 (by decide) (fun c590 => ?_) (fun c590 => ?_)
    · exact absurd c590 (nI_ge (show by_ < ls.length by omega) (by omega))
    · refine zw_iload dL_law_593 rfl ?_
      refine zw_ifge (tgt := 692) dL_law_595 (by decide) (fun c595 => ?_) (fun c595 => ?_)
      · obtain ⟨τ, t1, rfl⟩ := htk.resolve_left (fun q => absurd c595 (by rw [q]; decide))
        refine zw_room (uc' := uc) (us' := us) (by omega) (by omega) ⟨hu1, hu2⟩ ?_
        exact KE turn τ by_ ht t1
      · refine zw_iload dL_law_598 rfl ?_
        refine zw_iload dL_law_600 rfl ?_
        refine zw_iadd dL_law_602 ?_
        rw [nI_add]
        refine zw_aload_n dL_law_603 rfl ?_
        refine zw_getR dL_law_604 zfL_22 rfl wk (by decide) gl ?_
        refine zw_alen (t := 0) dL_law_607 il.1 (by decide) ?_
        rw [il.2.2.2.1]
        refine zw_irem dL_law_608 (nI_ne0 (by omega) (by omega)) ?_
        rw [show nI (turn + by_) - nI (turn + by_) / nI ls.length * nI ls.length = nI ((turn + by_) % ls.length) from pk_rem (by omega) (by omega) (by omega)]
        refine zw_istore dL_law_609 (by decide) rfl ?_
        refine zw_iconst (x := 0) dL_law_611 rfl ?_
        refine zw_istore dL_law_612 (by decide) rfl ?_
        refine zw_loc (lc' := [(0, .ref 0), (1, .ref 1), (2, .ref 30), (3, .int (nI n)), (4, .ref fa), (5, .int (nI q)), (8, .int (nI at_)), (9, .int (nI turn)), (10, .int z10), (11, .int z11), (12, .int (nI time)), (13, .int (nI (E at_).length)), (14, .int (tk)), (15, .int (nI by_)), (16, .int (nI ((turn + by_) % ls.length))), (17, .int (nI 0))]) (zsub_cons rfl (zsub_cons rfl (zsub_cons rfl (zsub_cons rfl (zsub_cons rfl (zsub_cons rfl (zsub_cons rfl (zsub_cons rfl (zsub_cons rfl (zsub_cons rfl (zsub_cons rfl (zsub_cons rfl (zsub_cons rfl (zsub_cons rfl (zsub_cons rfl (zsub_cons rfl zsub_nil)))))))))))))))) ?_
        refine zw_room (uc' := uc) (us' := us) (by omega) (by omega) ⟨hu1, hu2⟩ ?_
        refine lp_r1 wl hat htm (show (turn + by_) % ls.length < 3 by omega) hu1 hu2 hE ?_ (E at_).length 0 tk (Nat.zero_add _) htk (fun _ k' hk' => absurd hk' (Nat.not_lt_zero k'))
        intro tk2 htk2 hno2
        refine zw_iload dL_law_669 rfl ?_
        refine zw_iflt (tgt := 686) dL_law_671 (by decide) (fun c671 => ?_) (fun c671 => ?_)
        · refine zw_iinc dL_law_686 rfl (by decide) rfl ?_
          refine zw_goto (tgt := 583) dL_law_689 (by decide) ?_
          have e : tk2 = -1 := htk2.resolve_right (fun ⟨τ, t1, t2⟩ => absurd c671 (by rw [t2]; exact nI_pos (by omega)))
          have e0 : tk = -1 := htk.resolve_right (fun ⟨τ, t1, t2⟩ => c595 (by rw [t2]; exact nI_pos' (by omega)))
          refine zw_loc (lc' := [(0, .ref 0), (1, .ref 1), (2, .ref 30), (3, .int (nI n)), (4, .ref fa), (5, .int (nI q)), (8, .int (nI at_)), (9, .int (nI turn)), (10, .int z10), (11, .int z11), (12, .int (nI time)), (13, .int (nI (E at_).length)), (14, .int (tk2)), (15, .int (nI by_ + 1))]) (zsub_cons rfl (zsub_cons rfl (zsub_cons rfl (zsub_cons rfl (zsub_cons rfl (zsub_cons rfl (zsub_cons rfl (zsub_cons rfl (zsub_cons rfl (zsub_cons rfl (zsub_cons rfl (zsub_cons rfl (zsub_cons rfl (zsub_cons rfl zsub_nil)))))))))))))) ?_
          rw [nI_1]
          refine zw_room (uc' := uc) (us' := us) (by omega) (by omega) ⟨hu1, hu2⟩ ?_
          exact ih (by_ + 1) turn tk2 (by omega) ht htk2 (fun q b' hb' j hj => by
            by_cases c : b' = by_
            · rw [c]; exact hno2 q j hj
            · exact hno e0 b' (by omega) j hj)
        · refine zw_iload dL_law_674 rfl ?_
          refine zw_iconst (x := 1) dL_law_676 rfl ?_
          refine zw_iadd dL_law_677 ?_
          rw [nI_1]
          refine zw_aload_n dL_law_678 rfl ?_
          refine zw_getR dL_law_679 zfL_22 rfl wk (by decide) gl ?_
          refine zw_alen (t := 0) dL_law_682 il.1 (by decide) ?_
          rw [il.2.2.2.1]
          refine zw_irem dL_law_683 (nI_ne0 (by omega) (by omega)) ?_
          rw [show nI ((turn + by_) % ls.length + 1) - nI ((turn + by_) % ls.length + 1) / nI ls.length * nI ls.length = nI (((turn + by_) % ls.length + 1) % ls.length) from pk_rem (by omega) (by omega) (by omega)]
          refine zw_istore dL_law_684 (by decide) rfl ?_
          refine zw_iinc dL_law_686 rfl (by decide) rfl ?_
          refine zw_goto (tgt := 583) dL_law_689 (by decide) ?_
          obtain ⟨τ, t1, rfl⟩ := htk2.resolve_left (fun q => c671 (by rw [q]; decide))
          have hmt := Nat.mod_lt ((turn + by_) % ls.length + 1) (show 0 < ls.length by omega)
          refine zw_loc (lc' := [(0, .ref 0), (1, .ref 1), (2, .ref 30), (3, .int (nI n)), (4, .ref fa), (5, .int (nI q)), (8, .int (nI at_)), (9, .int (nI (((turn + by_) % ls.length + 1) % ls.length))), (10, .int z10), (11, .int z11), (12, .int (nI time)), (13, .int (nI (E at_).length)), (14, .int (nI τ)), (15, .int (nI by_ + 1))]) (zsub_cons rfl (zsub_cons rfl (zsub_cons rfl (zsub_cons rfl (zsub_cons rfl (zsub_cons rfl (zsub_cons rfl (zsub_cons rfl (zsub_cons rfl (zsub_cons rfl (zsub_cons rfl (zsub_cons rfl (zsub_cons rfl (zsub_cons rfl zsub_nil)))))))))))))) ?_
          rw [nI_1]
          refine zw_room (uc' := uc) (us' := us) (by omega) (by omega) ⟨hu1, hu2⟩ ?_
          exact ih (by_ + 1) _ (nI τ) (by omega) hmt (Or.inr ⟨τ, t1, rfl⟩) (fun q => absurd q (nI_nm1 (by omega)))
