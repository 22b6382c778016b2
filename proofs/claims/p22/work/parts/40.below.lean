/-! below, cell -/
theorem below_nn (v : Int32) : ¬ (v &&& 2147483647) < 0 := by
  have h : (v &&& 2147483647).toBitVec.msb = false := by
    rw [Int32.toBitVec_and, BitVec.msb_and, show (2147483647 : Int32).toBitVec.msb = false from by decide, Bool.and_false]
  have h2 : (v &&& 2147483647).toInt = ((v &&& 2147483647).toBitVec.toNat : Int) := BitVec.toInt_eq_toNat_of_msb h
  rw [Int32.lt_iff_toInt_lt, h2, show (0 : Int32).toInt = 0 from by decide]
  omega
theorem below_eq (v : Int32) {n : Nat} (h1 : 0 < n) (h2 : n < 2 ^ 31) : ∃ j, j < n ∧ (v &&& 2147483647) - (v &&& 2147483647) / nI n * nI n = nI j := by
  obtain ⟨j, hj, e⟩ := nI_of (below_nn v)
  refine ⟨j % n, Nat.mod_lt _ h1, ?_⟩
  rw [e, pk_div hj h1 h2, pk_mul]
  have q : nI j = nI (j % n) + nI (j / n * n) := by rw [nI_add, Nat.mod_add_div' j n]
  rw [q]
  exact Int32.add_sub_cancel _ _
set_option maxHeartbeats 4000000 in
set_option maxRecDepth 100000 in
theorem c_L_below {l : Launch} {σ : zS} {v : Int32} {n : Nat} (h1 : 0 < n) (h2 : n < 2 ^ 31) : zAM l zmL_below 0 0 0 0 [.int v, .int (nI n)] σ (fun r σ' => (∃ j, j < n ∧ r = some (.int (nI j))) ∧ σ' = σ) := by
  refine zAM.of (by decide +kernel) (Nat.le_of_ble_eq_true rfl) ?_
  refine zw_iload_n dL_below_0 rfl ?_
  refine zw_ldc (x := 2147483647) dL_below_1 zkL_7 ?_
  refine zw_iand dL_below_3 ?_
  refine zw_iload_n dL_below_4 rfl ?_
  refine zw_irem dL_below_5 (nI_ne0 h1 h2) ?_
  refine zw_iret dL_below_6 rfl rfl ?_
  obtain ⟨j, j1, j2⟩ := below_eq v h1 h2
  rw [j2]
  exact ⟨⟨j, j1, rfl⟩, rfl⟩
set_option maxHeartbeats 4000000 in
set_option maxRecDepth 100000 in
theorem c_L_cell {l : Launch} {σ : zS} (hk0 : zK σ 0 = 100) (hl0 : zL σ 0 < 2 ^ 31) {k : Nat} (hk : k < 2 ^ 31) : zAM l zmL_cell 0 0 0 0 [.ref 0, .int (nI k)] σ (fun r σ' => (∃ x, r = some (.int x)) ∧ σ' = σ) := by
  refine zAM.of (by decide +kernel) (Nat.le_of_ble_eq_true rfl) ?_
  refine zw_iload_n dL_cell_0 rfl ?_
  refine zw_aload_n dL_cell_1 rfl ?_
  refine zw_alen (t := 0) dL_cell_2 hk0 (by decide) ?_
  refine zw_icmpge (tgt := 12) dL_cell_3 (by decide) (fun c3 => ?_) (fun c3 => ?_)
  · refine zw_ldc (x := 790386105) dL_cell_12 zkL_8 ?_
    refine zw_iload_n dL_cell_14 rfl ?_
    refine zw_iconst (x := 3) dL_cell_15 rfl ?_
    refine zw_iadd dL_cell_16 ?_
    refine zw_imul dL_cell_17 ?_
    refine zw_iret dL_cell_18 rfl rfl ?_
    exact ⟨⟨_, rfl⟩, rfl⟩
  · refine zw_aload_n dL_cell_6 rfl ?_
    refine zw_iload_n dL_cell_7 rfl ?_
    refine zw_iaload dL_cell_8 hk0 (zin_of rfl (vp_in_nI (Nat.lt_of_not_le (fun q => c3 (nI_le q hk))) hl0)) ?_
    refine zw_goto (tgt := 18) dL_cell_9 (by decide) ?_
    refine zw_iret dL_cell_18 rfl rfl ?_
    exact ⟨⟨_, rfl⟩, rfl⟩
