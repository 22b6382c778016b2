/-! the law from its beginning -/
theorem bUS_3 {L : Nat} (h : L ≤ 3) : bU L ≤ 612 ∧ bS L ≤ 2430 := by
  rcases (show L = 0 ∨ L = 1 ∨ L = 2 ∨ L = 3 by omega) with rfl | rfl | rfl | rfl <;> decide
theorem fH.y {σ σ' : zS} {k : Nat} {xs : List Int32} (h : fH σ k xs) (h30 : 30 < zn σ) (hk : k < 4) (hy : zY σ σ') : fH σ' k xs := by
  obtain ⟨a, q1, q2, q3⟩ := h
  exact ⟨a, (((hy.2 30 h30).2.2.2.2 6 k).2 (by omega)).trans q1, q2, q3.y hy⟩
theorem cR.y {σ σ' : zS} {ls G : List Int32} {pk : Nat} (h : cR σ ls G) (hy : zY σ σ') (h30 : 30 < zn σ) (hp : pk < zn σ) : cR σ' ls G := by
  obtain ⟨r1, r2, r3, r4, r5⟩ := h
  have q : xQ pk σ σ' := hy.qq (by omega) hp
  exact ⟨q.sh r1, (q.2.2.1 2 5 2 (by decide) (Or.inl rfl)).trans r2, (q.2.2.1 2 6 2 (by decide) (Or.inl rfl)).trans r3, by rw [q.2.2.2 3 (Or.inl ⟨by decide, by decide⟩)]; exact r4, by rw [(hy.2 0 (by omega)).2.1]; exact r5⟩
theorem keys_at {σ : zS} {L V : Nat} {rows : List (List Int32)} (h : xKeys σ rows.length = rows.map (enc L V)) {s : Nat} {r : List Int32} (hr : rows[s]? = some r) : zI σ 9 s = enc L V r := by
  have hl := (List.getElem?_eq_some_iff.mp hr).1
  have e := xKeys_at (σ := σ) hl
  rw [h, List.getElem?_map, hr] at e
  exact (Option.some.inj e).symm
set_option maxHeartbeats 4000000 in
set_option maxRecDepth 100000 in
theorem law_walk {l : Launch} {LL : Nat} {xs : Nat → Int32} (hL : LL < 2 ^ 31) : zAW l zmL_lw { frames := 10, cells := 600086, slots := 7301442, locals := 360 } 0 [(0, .ref 0)] [] (zMk [(0, 100)] [(0, LL)] [] [] [] xs 1) 0 0 (fun v _ => v = some (.int 1)) := by
  refine zw_new dL_law_0 znL_31 zdef_5 (by decide) ⟨Nat.le_of_ble_eq_true rfl, Nat.le_of_ble_eq_true rfl⟩ ?_
  rw [show zn (zMk [(0, 100)] [(0, LL)] [] [] [] xs 1) = 1 from rfl, zmk_C (n1 := 2) rfl (fun _ _ => rfl) (fun _ _ => rfl)]
  refine zw_dup dL_law_3 rfl ?_
  refine zw_callI (y' := zmX5_init) dL_law_4 zlL_73 zmX5_init_ok c1_X5_init rfl rfl (Nat.le_of_ble_eq_true rfl) ⟨Nat.le_of_ble_eq_true rfl, Nat.le_of_ble_eq_true rfl⟩ ⟨Nat.le_of_ble_eq_true rfl, Nat.le_of_ble_eq_true rfl⟩ ?_
  intro v4 s4 q4
  obtain ⟨rfl, z4⟩ := q4
  have z4 : s4 = hF1 LL xs := z4
  rw [z4]
  clear z4
  refine zw_room (uc' := 29) (us' := 8848) (Nat.le_of_ble_eq_true rfl) (Nat.le_of_ble_eq_true rfl) ⟨Nat.le_of_ble_eq_true rfl, Nat.le_of_ble_eq_true rfl⟩ ?_
  refine zw_astore_n dL_law_7 (by decide) rfl ?_
  refine zw_aload_n dL_law_8 rfl ?_
  refine zw_aload_n dL_law_9 rfl ?_
  refine zw_callS (y' := zmL_build) dL_law_10 zlL_74 zmL_build_ok (c_L_build hL) rfl rfl (Nat.le_of_ble_eq_true rfl) ⟨Nat.le_of_ble_eq_true rfl, Nat.le_of_ble_eq_true rfl⟩ ⟨Nat.le_of_ble_eq_true rfl, Nat.le_of_ble_eq_true rfl⟩ ?_
  intro v10 s10 q10
  obtain ⟨rfl, ba⟩ := q10
  refine zw_astore_n dL_law_13 (by decide) rfl ?_
  refine zw_aload_n dL_law_14 rfl ?_
  refine zw_ifnonnull (tgt := 20) dL_law_15 (by decide) ?_
  refine zw_wf (fun hw => ?_)
  obtain ⟨ls, G, B, mvs, mid, bc, bh, lo, go, mo, h1, h3, h2⟩ := ba
  have hpro := (bC_rAll bc go mo h3 h2).1
  have kq := c_X5_explore (l := l) bc.1.1 bc.1.2.1 (Nat.le_of_eq bc.1.2.2.1) (by rw [bc.1.2.2.1]; decide) hpro h1 bc.2.1.2 (by omega)
  rw [zsF_self s10 4 11 21 (-1) bc.2.2.2.2.2] at kq
  obtain ⟨⟨ra, rb⟩, ex⟩ := ex_all hw bc go mo h1 h3 h2 (f := xFl s10 ls.length (mcs mvs) mid 400 0 (xBg s10 (xKb s10 G.length 0 0))) rfl
  generalize xFl s10 ls.length (mcs mvs) mid 400 0 (xBg s10 (xKb s10 G.length 0 0)) = f at kq ra rb ex
  generalize zn f - zn s10 = A1 at kq ra
  generalize 2 * (xLen f - xLen s10) = B1 at kq rb
  refine zw_aload_n dL_law_20 rfl ?_
  refine zw_callV (y' := zmX5_explore) dL_law_21 zlL_78 zmX5_explore_ok (xk_1 bc.1.1) (by decide) rfl kq rfl rfl (Nat.le_of_ble_eq_true rfl) ⟨Nat.le_of_ble_eq_true rfl, Nat.le_of_ble_eq_true rfl⟩ ⟨by show _ ≤ 600086; omega, by show _ ≤ 7301442; omega⟩ ?_
  intro v21 s21 q21
  obtain ⟨rfl, z21⟩ := q21
  rw [← z21] at ex
  clear z21
  obtain ⟨cc, ⟨cr, fz, lf⟩, hcase⟩ := ex
  have bh2 := bh.c cc
  obtain ⟨hA, hbg⟩ := bh2.all
  obtain ⟨b1, b2⟩ := bUS_3 h3
  refine zw_wf (fun hw21 => ?_)
  refine zw_istore_n dL_law_24 (by decide) rfl ?_
  refine zw_aload_n dL_law_25 rfl ?_
  refine zw_sipush (x := 400) dL_law_26 rfl ?_
  refine zw_callV (y' := zmX6_explore) dL_law_29 zlL_82 zmX6_explore_ok bh2.1 (by decide) rfl (c_X6_explore (M := 400) (RC := 247060) (RS := 5140000) hA hbg go.1 (by omega) h3 (mOk_hMvs mo h3) (mOk_pos mo) (mo := 400) rfl (Nat.le_refl _) (by decide) (by omega) (by omega) ⟨by decide, by decide⟩) rfl rfl (Nat.le_of_ble_eq_true rfl) ⟨Nat.le_of_ble_eq_true rfl, Nat.le_of_ble_eq_true rfl⟩ ⟨by show _ ≤ 600086; omega, by show _ ≤ 7301442; omega⟩ ?_
  intro v29 s29 q29
  obtain ⟨yy, hc2⟩ := q29
  rcases hc2 with ⟨rfl, hgt⟩ | ⟨rfl, hle, hA2⟩
  · rcases hcase with ⟨-, e⟩ | ⟨h, -⟩
    rotate_left
    · omega
    rw [e]
    refine zw_ifne (tgt := 46) dL_law_32 (by decide) (fun c32 => ?_) (fun c32 => ?_)
    · exact absurd rfl c32
    · refine zw_iload_n dL_law_35 rfl ?_
      refine zw_iconst (x := -1) dL_law_36 rfl ?_
      refine zw_icmpne (tgt := 44) dL_law_37 (by decide) (fun c37 => ?_) (fun c37 => ?_)
      · exact absurd rfl c37
      · refine zw_iconst (x := 1) dL_law_40 rfl ?_
        refine zw_goto (tgt := 45) dL_law_41 (by decide) ?_
        refine zw_iret dL_law_45 rfl rfl ?_
        rfl
  · rcases hcase with ⟨h, -⟩ | ⟨-, e, pk, fs, dep, par, pst, E, hx, hks⟩
    · omega
    rw [e]
    have hrok := hBf_rok (bC_rAll bc go mo h3 h2) 400 0 [hB0 ls.length B] (fun r hr => by rw [List.mem_singleton.mp hr]; exact hB0_ok go)
    generalize hBf ls.length G mvs 400 0 [hB0 ls.length B] = rows at hle hA2 hx hks hrok ⊢
    have hpk : pk < zn s21 := zWF_lt hw21 hx.2.2.2.2.1.1.2.1 (by decide)
    have h43 := bh2.2.1
    have hx2 := hx.q (yy.qq (by omega) hpk)
    have cr2 := cr.y yy (by omega) hpk
    have fz2 : xFz s29 = nI 0 := ((yy.2 17 (by omega)).2.2.2.2 0 3).1.trans fz
    have lf2 : zF s29 4 11 21 = -1 := ((yy.2 21 (by omega)).2.2.2.2 4 11).1.trans lf
    have hpk2 : pk < zn s29 := Nat.lt_of_lt_of_le hpk yy.1
    obtain ⟨k30, n30, ⟨sa, gsa, isa⟩, -⟩ := hA2.2.2.1
    have wh2 : wH s29 ls G rows := ⟨k30, n30, bh2.2.2.1.y (by omega) (by decide) yy, bh2.2.2.2.1.y (by omega) (by decide) yy, sa, gsa, isa.2.1, isa⟩
    have hkey : ∀ (s : Nat) (r : List Int32), rows[s]? = some r → zI s29 9 s = enc ls.length G.length r := fun s r hr => by
      rw [(yy.2 9 (by omega)).2.2.1]
      exact keys_at hks hr
    refine zw_wf (fun hw29 => ?_)
    refine zw_ifne (tgt := 46) dL_law_32 (by decide) (fun c32 => ?_) (fun c32 => ?_)
    · refine zw_aload_n dL_law_46 rfl ?_
      refine zw_aload_n dL_law_47 rfl ?_
      refine zw_aload_n dL_law_48 rfl ?_
      refine zw_bipush (x := 9) dL_law_49 rfl ?_
      refine zw_callS (y' := zmL_facts) dL_law_51 zlL_85 zmL_facts_ok (c_L_facts hw29 cr2 wh2 lo h1 h3 h2 hle hrok hkey fz2) rfl rfl (Nat.le_of_ble_eq_true rfl) ⟨Nat.le_of_ble_eq_true rfl, Nat.le_of_ble_eq_true rfl⟩ ⟨by show _ ≤ 600086; omega, by show _ ≤ 7301442; omega⟩ ?_
      intro v51 s51 q51
      obtain ⟨rfl, hu, fz8, fb, ft⟩ := q51
      have h44 : 30 < zn s29 := wh2.2.1
      have wl : wL s51 ls G pk rows.length fs dep par pst E (zn s29) := ⟨hx2.q (hu.qq (by omega) hpk2 hx2.2.2.2.2.1.1.2.2), cr2.u hw29 hu, fz8, ⟨by omega, fb, ft⟩, ⟨(hu.2 30 h44).1.trans wh2.1, Nat.lt_of_lt_of_le h44 hu.1, (by
        obtain ⟨a, q1, q2, q3⟩ := wh2.2.2.1
        exact ⟨a, ((hu.2 30 h44).2.2.2.2.1 6 0).trans q1, q2, q3.u hu (by omega)⟩)⟩, Nat.lt_of_lt_of_le hpk2 hu.1⟩
      have lf3 : zF s51 4 11 21 = -1 := ((hu.2 21 (by omega)).2.2.2.2.2 4 11 (by decide)).trans lf2
      obtain ⟨-, -, -, -, sa, gsa, sa0, isa⟩ := wh2
      have gs2 : zG s51 6 4 30 = some sa := ((hu.2 30 h44).2.2.2.2.1 6 4).trans gsa
      have ks2 : zK s51 sa = 104 := (hu.2 sa isa.2.2.1).1.trans isa.1
      have ln2 : zL s51 sa = rows.length := (hu.2 sa isa.2.2.1).2.1.trans isa.2.2.2.1
      refine zw_astore dL_law_54 (by decide) rfl ?_
      refine zw_aload dL_law_56 rfl ?_
      refine zw_ifnull dL_law_58 ?_
      refine zw_iload_n dL_law_61 rfl ?_
      refine zw_aload_n dL_law_62 rfl ?_
      refine zw_getR dL_law_63 zfL_63 rfl wl.2.2.2.2.1.1 (by decide) gs2 ?_
      refine zw_alen (t := 4) dL_law_66 ks2 (by decide) ?_
      rw [ln2]
      refine zw_icmpeq (tgt := 72) dL_law_67 (by decide) (fun c67 => ?_) (fun c67 => ?_)
      · refine zw_iconst (x := 0) dL_law_72 rfl ?_
        refine zw_istore dL_law_73 (by decide) rfl ?_
        refine zw_loc (lc' := [(0, .ref 0), (1, .ref 1), (2, .ref 30), (3, .int (nI rows.length)), (4, .ref (zn s29)), (5, .int (nI 0))]) (zsub_cons rfl (zsub_cons rfl (zsub_cons rfl (zsub_cons rfl (zsub_cons rfl (zsub_cons rfl zsub_nil)))))) ?_
        refine zw_room (uc' := 504390) (us' := 5667380) (by omega) (by omega) ⟨Nat.le_of_ble_eq_true rfl, Nat.le_of_ble_eq_true rfl⟩ ?_
        exact lp_w wl (by omega) (by omega) (lp_q wl h1 lf3 (by omega) (by omega)) rows.length 0 (Nat.le_of_eq (Nat.zero_add _).symm) (by decide)
      · exact absurd rfl c67
    · exact absurd c32 (by decide)
