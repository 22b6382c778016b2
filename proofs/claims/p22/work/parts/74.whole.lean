/-! the law's build as a whole -/
theorem hF_sh (L : Nat) (xs : Nat → Int32) : xSh (hF L xs) := by
  refine ⟨?_, ?_, ?_⟩
  · intro q hq
    simp only [xKs, List.mem_cons, List.not_mem_nil, or_false] at hq
    rcases hq with rfl | rfl | rfl | rfl | rfl | rfl | rfl | rfl | rfl | rfl | rfl | rfl | rfl | rfl | rfl | rfl | rfl | rfl | rfl | rfl | rfl | rfl | rfl | rfl | rfl | rfl | rfl | rfl <;> rfl
  · intro q hq
    simp only [xLs, List.mem_cons, List.not_mem_nil, or_false] at hq
    rcases hq with rfl | rfl | rfl | rfl | rfl | rfl | rfl | rfl | rfl | rfl | rfl | rfl | rfl | rfl | rfl | rfl | rfl | rfl | rfl | rfl | rfl | rfl | rfl <;> rfl
  · intro q hq
    simp only [xGs, List.mem_cons, List.not_mem_nil, or_false] at hq
    rcases hq with rfl | rfl | rfl | rfl | rfl | rfl | rfl | rfl | rfl | rfl | rfl | rfl | rfl | rfl | rfl | rfl | rfl | rfl | rfl | rfl | rfl | rfl | rfl | rfl | rfl | rfl | rfl <;> rfl
theorem hF_bC {L : Nat} (hL : L < 2 ^ 31) (xs : Nat → Int32) : bC (hF L xs) [] [] [] (List.replicate 5 []) (fun _ _ => 0) := by
  refine ⟨⟨hF_sh L xs, ⟨rfl, rfl, Or.inl rfl⟩, rfl, hL⟩, ⟨rfl, rfl⟩, ⟨fun p x q => (by cases q), fun p x q => (by cases q), fun p x q => (by cases q)⟩, fun p ms q => ?_, rfl, rfl⟩
  rw [rep_no q]
  exact ⟨rfl, fun m o e => by cases e⟩
theorem hF_bH (L : Nat) (xs : Nat → Int32) : bH (hF L xs) [] [] [] (List.replicate 5 []) := by
  refine ⟨rfl, (by decide : 43 < 44), ⟨31, rfl, by decide, rfl, by decide, (by decide : 31 < 44), rfl, fun i x q => by cases q⟩, ⟨32, rfl, by decide, rfl, by decide, (by decide : 32 < 44), rfl, fun i x q => by cases q⟩, ⟨33, rfl, by decide, rfl, by decide, (by decide : 33 < 44), rfl, fun i x q => by cases q⟩, ⟨rfl, rfl, by decide, (by decide : 34 < 44), rfl, fun i x q => ?_⟩, ⟨rfl, rfl, rfl⟩, ⟨rfl, rfl, rfl⟩, ⟨rfl, rfl, rfl⟩, ⟨rfl, rfl, rfl⟩⟩
  have hi : i < 5 := by
    have := (List.getElem?_eq_some_iff.mp q).1
    rw [List.length_replicate] at this
    exact this
  rw [rep_no q]
  have e : ∀ b, 34 < b → b < 40 → zK (hF L xs) b = 104 ∧ zL (hF L xs) b = 0 := by
    intro b h1 h2
    rcases (show b = 35 ∨ b = 36 ∨ b = 37 ∨ b = 38 ∨ b = 39 by omega) with rfl | rfl | rfl | rfl | rfl <;> exact ⟨rfl, rfl⟩
  obtain ⟨e1, e2⟩ := e (35 + i) (by omega) (by omega)
  exact ⟨35 + i, rfl, by omega, e1, by omega, Nat.lt_of_lt_of_le (show 35 + i < 44 by omega) (Nat.le_refl 44), e2, fun j y z => by cases z⟩
theorem mOk_rep (V : Nat) : mOk (List.replicate 5 []) V := ⟨rfl, fun q l h => by rw [rep_no h]; exact ⟨Nat.zero_le _, fun _ z => (List.not_mem_nil z).elim⟩⟩
/-- what build leaves -/
def bAll (σ : zS) : Prop := ∃ (ls G B : List Int32) (mvs : List (List hMv)) (mid : Nat → Nat → Nat), bC σ ls G B mvs mid ∧ bH σ ls G B mvs ∧ lsOk ls ∧ gOk G B ∧ mOk mvs G.length ∧ 1 ≤ ls.length ∧ ls.length ≤ 3 ∧ G.length ≤ 2
set_option maxHeartbeats 4000000 in
set_option maxRecDepth 100000 in
theorem c_L_build {l : Launch} {LL : Nat} {xs : Nat → Int32} (hL : LL < 2 ^ 31) : zAM l zmL_build 4 94 100 1000 [.ref 1, .ref 0] (hF1 LL xs) (fun v σ' => v = some (.ref 30) ∧ bAll σ') := by
  refine zAM.of (by decide +kernel) (Nat.le_of_ble_eq_true rfl) ?_
  refine zw_new dL_build_0 znL_9 zdef_6 (by decide) ⟨Nat.le_of_ble_eq_true rfl, Nat.le_of_ble_eq_true rfl⟩ ?_
  rw [show zn (hF1 LL xs) = 30 from rfl, zmk_C (n1 := 31) rfl (fun _ _ => rfl) (fun _ _ => rfl)]
  refine zw_dup dL_build_3 rfl ?_
  refine zw_callI (y' := zmX6_init) dL_build_4 zlL_11 zmX6_init_ok c1_X6_init rfl rfl (Nat.le_of_ble_eq_true rfl) ⟨Nat.le_of_ble_eq_true rfl, Nat.le_of_ble_eq_true rfl⟩ ⟨Nat.le_of_ble_eq_true rfl, Nat.le_of_ble_eq_true rfl⟩ ?_
  intro v4 s4 q4
  obtain ⟨rfl, z4⟩ := q4
  have bc := hF_bC hL xs
  have bh := hF_bH LL xs
  have z4 : s4 = hF LL xs := z4
  rw [← z4] at bc bh
  clear z4
  refine zw_wf (fun hw => ?_)
  refine zw_astore_n dL_build_7 (by decide) rfl ?_
  refine zw_iconst (x := 1) dL_build_8 rfl ?_
  refine zw_aload_n dL_build_9 rfl ?_
  refine zw_iconst (x := 0) dL_build_10 rfl ?_
  refine zw_callS (y' := zmL_cell) dL_build_11 zlL_12 zmL_cell_ok (c_L_cell hw.2.1 bc.1.2.2.2 (k := 0) (by decide)) rfl rfl (Nat.le_of_ble_eq_true rfl) ⟨Nat.le_of_ble_eq_true rfl, Nat.le_of_ble_eq_true rfl⟩ ⟨Nat.le_of_ble_eq_true rfl, Nat.le_of_ble_eq_true rfl⟩ ?_
  intro v11 s11 q11
  obtain ⟨⟨x11, rfl⟩, z11⟩ := q11
  rw [z11]
  clear z11
  refine zw_iconst (x := 3) dL_build_14 rfl ?_
  refine zw_callS (y' := zmL_below) dL_build_15 zlL_18 zmL_below_ok (c_L_below (n := 3) (by decide) (by decide)) rfl rfl (Nat.le_of_ble_eq_true rfl) ⟨Nat.le_of_ble_eq_true rfl, Nat.le_of_ble_eq_true rfl⟩ ⟨Nat.le_of_ble_eq_true rfl, Nat.le_of_ble_eq_true rfl⟩ ?_
  intro v15 s15 q15
  obtain ⟨⟨j15, h15, rfl⟩, z15⟩ := q15
  rw [z15]
  clear z15
  refine zw_iadd dL_build_18 ?_
  rw [show (1 : Int32) + nI j15 = nI (j15 + 1) from by rw [Int32.add_comm, nI_1]]
  refine zw_istore_n dL_build_19 (by decide) rfl ?_
  refine zw_aload_n dL_build_20 rfl ?_
  refine zw_iconst (x := 0) dL_build_21 rfl ?_
  refine zw_callS (y' := zmL_cell) dL_build_22 zlL_12 zmL_cell_ok (c_L_cell hw.2.1 bc.1.2.2.2 (k := 0) (by decide)) rfl rfl (Nat.le_of_ble_eq_true rfl) ⟨Nat.le_of_ble_eq_true rfl, Nat.le_of_ble_eq_true rfl⟩ ⟨Nat.le_of_ble_eq_true rfl, Nat.le_of_ble_eq_true rfl⟩ ?_
  intro v22 s22 q22
  obtain ⟨⟨x22, rfl⟩, z22⟩ := q22
  rw [z22]
  clear z22
  refine zw_iconst (x := 3) dL_build_25 rfl ?_
  refine zw_ishr dL_build_26 ?_
  refine zw_iconst (x := 3) dL_build_27 rfl ?_
  refine zw_callS (y' := zmL_below) dL_build_28 zlL_18 zmL_below_ok (c_L_below (n := 3) (by decide) (by decide)) rfl rfl (Nat.le_of_ble_eq_true rfl) ⟨Nat.le_of_ble_eq_true rfl, Nat.le_of_ble_eq_true rfl⟩ ⟨Nat.le_of_ble_eq_true rfl, Nat.le_of_ble_eq_true rfl⟩ ?_
  intro v28 s28 q28
  obtain ⟨⟨j28, h28, rfl⟩, z28⟩ := q28
  rw [z28]
  clear z28
  refine zw_istore dL_build_31 (by decide) rfl ?_
  refine zw_iconst (x := 0) dL_build_33 rfl ?_
  refine zw_istore dL_build_34 (by decide) rfl ?_
  refine zw_loc (lc' := [(0, .ref 1), (1, .ref 0), (2, .ref 30), (3, .int (nI (j15 + 1))), (4, .int (nI j28)), (5, .int (nI ([] : List Int32).length))]) (zsub_cons rfl (zsub_cons rfl (zsub_cons rfl (zsub_cons rfl (zsub_cons rfl (zsub_cons rfl zsub_nil)))))) (lp_b1 (V := j28) (show j15 + 1 ≤ 3 by omega) ?_ (j15 + 1) s4 [] (fun _ _ => 0) _ _ (Nat.zero_add _) bc bh (fun p hp => absurd hp (Nat.not_lt_zero p)) (Nat.le_of_ble_eq_true rfl) (Nat.le_of_ble_eq_true rfl))
  intro σ1 ls mid1 uc1 us1 e1 bc1 bh1 lo hu1 hu2
  refine lp_b2 (P := j15 + 1) (show j28 ≤ 2 by omega) ?_ j28 σ1 [] [] mid1 uc1 us1 (Nat.zero_add _) bc1 bh1 ⟨rfl, fun v hv => absurd hv (Nat.not_lt_zero v)⟩ (show uc1 ≤ 30 + 0 by omega) (show us1 ≤ 120 + 0 by omega)
  intro σ2 G B mid2 uc2 us2 e2 bc2 bh2 go hu3 hu4
  exact lp_c (P := j15 + 1) (V := j28) e1 (by omega) e2 (by omega) lo go (fun σ3 mvs mid3 bc3 bh3 mo => ⟨rfl, ls, G, B, mvs, mid3, bc3, bh3, lo, go, by rw [e2]; exact mo, by omega, by omega, by omega⟩) (j15 + 1) 0 σ2 _ mid2 uc2 us2 (Nat.zero_add _) bc2 bh2 (mOk_rep _) (fun q _ hq => by rw [List.getElem?_replicate, if_pos hq]) (by omega) (by omega)
