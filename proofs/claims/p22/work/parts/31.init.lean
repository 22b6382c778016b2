/-! the constructors -/
set_option maxHeartbeats 4000000 in
set_option maxRecDepth 100000 in
theorem c1_X2_init {l : Launch} {L : Nat} {xs : Nat → Int32} : zAM l zmX2_init 1 20 5 98 [.ref 2] (zMk [(2, 2), (1, 5), (0, 100)] [(0, L)] [] [] [] xs 3) (fun v σ' => v = none ∧ σ' = zMk [(7, 100), (6, 100), (5, 103), (4, 100), (3, 100), (2, 2), (1, 5), (0, 100)] [(7, 4), (6, 4), (5, 80), (4, 5), (3, 5), (0, L)] [(2, 2, 4, 7), (2, 2, 3, 6), (2, 2, 2, 5), (2, 2, 1, 4), (2, 2, 0, 3)] [] [] xs 8) := by
  refine zAM.of (by decide +kernel) (Nat.le_of_ble_eq_true rfl) ?_
  refine zw_aload_n dX2_init_0 rfl ?_
  refine zw_objInit dX2_init_1 zoX2_3 ⟨Nat.le_of_ble_eq_true rfl, Nat.le_of_ble_eq_true rfl⟩ ?_
  refine zw_aload_n dX2_init_4 rfl ?_
  refine zw_iconst (x := 5) dX2_init_5 rfl ?_
  refine zw_newI (N := 5) dX2_init_6 rfl (Nat.le_of_ble_eq_true rfl) ⟨Nat.le_of_ble_eq_true rfl, Nat.le_of_ble_eq_true rfl⟩ ?_
  rw [show zn (zMk [(2, 2), (1, 5), (0, 100)] [(0, L)] [] [] [] xs 3) = 3 from rfl, zmk_A (k1 := 100) (n1 := 4) rfl rfl (by decide) (fun _ => rfl)]
  refine zw_putO dX2_init_8 zfX2_9 rfl (Or.inr ⟨rfl, rfl, rfl, by decide⟩) (show zK _ 2 = 2 from rfl) (by decide) ?_
  rw [zmk_G]
  refine zw_aload_n dX2_init_11 rfl ?_
  refine zw_iconst (x := 5) dX2_init_12 rfl ?_
  refine zw_newI (N := 5) dX2_init_13 rfl (Nat.le_of_ble_eq_true rfl) ⟨Nat.le_of_ble_eq_true rfl, Nat.le_of_ble_eq_true rfl⟩ ?_
  rw [show zn (zMk [(3, 100), (2, 2), (1, 5), (0, 100)] [(3, 5), (0, L)] [(2, 2, 0, 3)] [] [] xs 4) = 4 from rfl, zmk_A (k1 := 100) (n1 := 5) rfl rfl (by decide) (fun _ => rfl)]
  refine zw_putO dX2_init_15 zfX2_15 rfl (Or.inr ⟨rfl, rfl, rfl, by decide⟩) (show zK _ 2 = 2 from rfl) (by decide) ?_
  rw [zmk_G]
  refine zw_aload_n dX2_init_18 rfl ?_
  refine zw_bipush (x := 80) dX2_init_19 rfl ?_
  refine zw_newO (t := 3) (N := 80) dX2_init_21 zclX2_18 (by decide) (by decide) rfl rfl (Nat.le_of_ble_eq_true rfl) ⟨Nat.le_of_ble_eq_true rfl, Nat.le_of_ble_eq_true rfl⟩ ?_
  rw [show zn (zMk [(4, 100), (3, 100), (2, 2), (1, 5), (0, 100)] [(4, 5), (3, 5), (0, L)] [(2, 2, 1, 4), (2, 2, 0, 3)] [] [] xs 5) = 5 from rfl, zmk_A (k1 := 103) (n1 := 6) rfl rfl (by decide) (fun _ => rfl)]
  refine zw_putO dX2_init_24 zfX2_20 rfl (Or.inr ⟨rfl, rfl, rfl, by decide⟩) (show zK _ 2 = 2 from rfl) (by decide) ?_
  rw [zmk_G]
  refine zw_aload_n dX2_init_27 rfl ?_
  refine zw_iconst (x := 4) dX2_init_28 rfl ?_
  refine zw_newI (N := 4) dX2_init_29 rfl (Nat.le_of_ble_eq_true rfl) ⟨Nat.le_of_ble_eq_true rfl, Nat.le_of_ble_eq_true rfl⟩ ?_
  rw [show zn (zMk [(5, 103), (4, 100), (3, 100), (2, 2), (1, 5), (0, 100)] [(5, 80), (4, 5), (3, 5), (0, L)] [(2, 2, 2, 5), (2, 2, 1, 4), (2, 2, 0, 3)] [] [] xs 6) = 6 from rfl, zmk_A (k1 := 100) (n1 := 7) rfl rfl (by decide) (fun _ => rfl)]
  refine zw_putO dX2_init_31 zfX2_24 rfl (Or.inr ⟨rfl, rfl, rfl, by decide⟩) (show zK _ 2 = 2 from rfl) (by decide) ?_
  rw [zmk_G]
  refine zw_aload_n dX2_init_34 rfl ?_
  refine zw_iconst (x := 4) dX2_init_35 rfl ?_
  refine zw_newI (N := 4) dX2_init_36 rfl (Nat.le_of_ble_eq_true rfl) ⟨Nat.le_of_ble_eq_true rfl, Nat.le_of_ble_eq_true rfl⟩ ?_
  rw [show zn (zMk [(6, 100), (5, 103), (4, 100), (3, 100), (2, 2), (1, 5), (0, 100)] [(6, 4), (5, 80), (4, 5), (3, 5), (0, L)] [(2, 2, 3, 6), (2, 2, 2, 5), (2, 2, 1, 4), (2, 2, 0, 3)] [] [] xs 7) = 7 from rfl, zmk_A (k1 := 100) (n1 := 8) rfl rfl (by decide) (fun _ => rfl)]
  refine zw_putO dX2_init_38 zfX2_27 rfl (Or.inr ⟨rfl, rfl, rfl, by decide⟩) (show zK _ 2 = 2 from rfl) (by decide) ?_
  rw [zmk_G]
  refine zw_vret dX2_init_41 rfl ?_
  exact ⟨rfl, rfl⟩
set_option maxHeartbeats 4000000 in
set_option maxRecDepth 100000 in
theorem c1_X3_init {l : Launch} {L : Nat} {xs : Nat → Int32} : zAM l zmX3_init 1 20 8 5473 [.ref 8] (zMk [(8, 3), (7, 100), (6, 100), (5, 103), (4, 100), (3, 100), (2, 2), (1, 5), (0, 100)] [(7, 4), (6, 4), (5, 80), (4, 5), (3, 5), (0, L)] [(1, 5, 0, 2), (2, 2, 4, 7), (2, 2, 3, 6), (2, 2, 2, 5), (2, 2, 1, 4), (2, 2, 0, 3)] [] [] xs 9) (fun v σ' => v = none ∧ σ' = zMk [(16, 100), (15, 100), (14, 100), (13, 100), (12, 100), (11, 100), (10, 100), (9, 100), (8, 3), (7, 100), (6, 100), (5, 103), (4, 100), (3, 100), (2, 2), (1, 5), (0, 100)] [(16, 2048), (15, 1024), (14, 401), (13, 400), (12, 400), (11, 400), (10, 400), (9, 400), (7, 4), (6, 4), (5, 80), (4, 5), (3, 5), (0, L)] [(8, 3, 7, 16), (8, 3, 6, 15), (8, 3, 5, 14), (8, 3, 4, 13), (8, 3, 3, 12), (8, 3, 2, 11), (8, 3, 1, 10), (8, 3, 0, 9), (1, 5, 0, 2), (2, 2, 4, 7), (2, 2, 3, 6), (2, 2, 2, 5), (2, 2, 1, 4), (2, 2, 0, 3)] [] [] xs 17) := by
  refine zAM.of (by decide +kernel) (Nat.le_of_ble_eq_true rfl) ?_
  refine zw_aload_n dX3_init_0 rfl ?_
  refine zw_objInit dX3_init_1 zoX3_5 ⟨Nat.le_of_ble_eq_true rfl, Nat.le_of_ble_eq_true rfl⟩ ?_
  refine zw_aload_n dX3_init_4 rfl ?_
  refine zw_sipush (x := 400) dX3_init_5 rfl ?_
  refine zw_newI (N := 400) dX3_init_8 rfl (Nat.le_of_ble_eq_true rfl) ⟨Nat.le_of_ble_eq_true rfl, Nat.le_of_ble_eq_true rfl⟩ ?_
  rw [show zn (zMk [(8, 3), (7, 100), (6, 100), (5, 103), (4, 100), (3, 100), (2, 2), (1, 5), (0, 100)] [(7, 4), (6, 4), (5, 80), (4, 5), (3, 5), (0, L)] [(1, 5, 0, 2), (2, 2, 4, 7), (2, 2, 3, 6), (2, 2, 2, 5), (2, 2, 1, 4), (2, 2, 0, 3)] [] [] xs 9) = 9 from rfl, zmk_A (k1 := 100) (n1 := 10) rfl rfl (by decide) (fun _ => rfl)]
  refine zw_putO dX3_init_10 zfX3_11 rfl (Or.inr ⟨rfl, rfl, rfl, by decide⟩) (show zK _ 8 = 3 from rfl) (by decide) ?_
  rw [zmk_G]
  refine zw_aload_n dX3_init_13 rfl ?_
  refine zw_sipush (x := 400) dX3_init_14 rfl ?_
  refine zw_newI (N := 400) dX3_init_17 rfl (Nat.le_of_ble_eq_true rfl) ⟨Nat.le_of_ble_eq_true rfl, Nat.le_of_ble_eq_true rfl⟩ ?_
  rw [show zn (zMk [(9, 100), (8, 3), (7, 100), (6, 100), (5, 103), (4, 100), (3, 100), (2, 2), (1, 5), (0, 100)] [(9, 400), (7, 4), (6, 4), (5, 80), (4, 5), (3, 5), (0, L)] [(8, 3, 0, 9), (1, 5, 0, 2), (2, 2, 4, 7), (2, 2, 3, 6), (2, 2, 2, 5), (2, 2, 1, 4), (2, 2, 0, 3)] [] [] xs 10) = 10 from rfl, zmk_A (k1 := 100) (n1 := 11) rfl rfl (by decide) (fun _ => rfl)]
  refine zw_putO dX3_init_19 zfX3_15 rfl (Or.inr ⟨rfl, rfl, rfl, by decide⟩) (show zK _ 8 = 3 from rfl) (by decide) ?_
  rw [zmk_G]
  refine zw_aload_n dX3_init_22 rfl ?_
  refine zw_sipush (x := 400) dX3_init_23 rfl ?_
  refine zw_newI (N := 400) dX3_init_26 rfl (Nat.le_of_ble_eq_true rfl) ⟨Nat.le_of_ble_eq_true rfl, Nat.le_of_ble_eq_true rfl⟩ ?_
  rw [show zn (zMk [(10, 100), (9, 100), (8, 3), (7, 100), (6, 100), (5, 103), (4, 100), (3, 100), (2, 2), (1, 5), (0, 100)] [(10, 400), (9, 400), (7, 4), (6, 4), (5, 80), (4, 5), (3, 5), (0, L)] [(8, 3, 1, 10), (8, 3, 0, 9), (1, 5, 0, 2), (2, 2, 4, 7), (2, 2, 3, 6), (2, 2, 2, 5), (2, 2, 1, 4), (2, 2, 0, 3)] [] [] xs 11) = 11 from rfl, zmk_A (k1 := 100) (n1 := 12) rfl rfl (by decide) (fun _ => rfl)]
  refine zw_putO dX3_init_28 zfX3_18 rfl (Or.inr ⟨rfl, rfl, rfl, by decide⟩) (show zK _ 8 = 3 from rfl) (by decide) ?_
  rw [zmk_G]
  refine zw_aload_n dX3_init_31 rfl ?_
  refine zw_sipush (x := 400) dX3_init_32 rfl ?_
  refine zw_newI (N := 400) dX3_init_35 rfl (Nat.le_of_ble_eq_true rfl) ⟨Nat.le_of_ble_eq_true rfl, Nat.le_of_ble_eq_true rfl⟩ ?_
  rw [show zn (zMk [(11, 100), (10, 100), (9, 100), (8, 3), (7, 100), (6, 100), (5, 103), (4, 100), (3, 100), (2, 2), (1, 5), (0, 100)] [(11, 400), (10, 400), (9, 400), (7, 4), (6, 4), (5, 80), (4, 5), (3, 5), (0, L)] [(8, 3, 2, 11), (8, 3, 1, 10), (8, 3, 0, 9), (1, 5, 0, 2), (2, 2, 4, 7), (2, 2, 3, 6), (2, 2, 2, 5), (2, 2, 1, 4), (2, 2, 0, 3)] [] [] xs 12) = 12 from rfl, zmk_A (k1 := 100) (n1 := 13) rfl rfl (by decide) (fun _ => rfl)]
  refine zw_putO dX3_init_37 zfX3_21 rfl (Or.inr ⟨rfl, rfl, rfl, by decide⟩) (show zK _ 8 = 3 from rfl) (by decide) ?_
  rw [zmk_G]
  refine zw_aload_n dX3_init_40 rfl ?_
  refine zw_sipush (x := 400) dX3_init_41 rfl ?_
  refine zw_newI (N := 400) dX3_init_44 rfl (Nat.le_of_ble_eq_true rfl) ⟨Nat.le_of_ble_eq_true rfl, Nat.le_of_ble_eq_true rfl⟩ ?_
  rw [show zn (zMk [(12, 100), (11, 100), (10, 100), (9, 100), (8, 3), (7, 100), (6, 100), (5, 103), (4, 100), (3, 100), (2, 2), (1, 5), (0, 100)] [(12, 400), (11, 400), (10, 400), (9, 400), (7, 4), (6, 4), (5, 80), (4, 5), (3, 5), (0, L)] [(8, 3, 3, 12), (8, 3, 2, 11), (8, 3, 1, 10), (8, 3, 0, 9), (1, 5, 0, 2), (2, 2, 4, 7), (2, 2, 3, 6), (2, 2, 2, 5), (2, 2, 1, 4), (2, 2, 0, 3)] [] [] xs 13) = 13 from rfl, zmk_A (k1 := 100) (n1 := 14) rfl rfl (by decide) (fun _ => rfl)]
  refine zw_putO dX3_init_46 zfX3_24 rfl (Or.inr ⟨rfl, rfl, rfl, by decide⟩) (show zK _ 8 = 3 from rfl) (by decide) ?_
  rw [zmk_G]
  refine zw_aload_n dX3_init_49 rfl ?_
  refine zw_sipush (x := 401) dX3_init_50 rfl ?_
  refine zw_newI (N := 401) dX3_init_53 rfl (Nat.le_of_ble_eq_true rfl) ⟨Nat.le_of_ble_eq_true rfl, Nat.le_of_ble_eq_true rfl⟩ ?_
  rw [show zn (zMk [(13, 100), (12, 100), (11, 100), (10, 100), (9, 100), (8, 3), (7, 100), (6, 100), (5, 103), (4, 100), (3, 100), (2, 2), (1, 5), (0, 100)] [(13, 400), (12, 400), (11, 400), (10, 400), (9, 400), (7, 4), (6, 4), (5, 80), (4, 5), (3, 5), (0, L)] [(8, 3, 4, 13), (8, 3, 3, 12), (8, 3, 2, 11), (8, 3, 1, 10), (8, 3, 0, 9), (1, 5, 0, 2), (2, 2, 4, 7), (2, 2, 3, 6), (2, 2, 2, 5), (2, 2, 1, 4), (2, 2, 0, 3)] [] [] xs 14) = 14 from rfl, zmk_A (k1 := 100) (n1 := 15) rfl rfl (by decide) (fun _ => rfl)]
  refine zw_putO dX3_init_55 zfX3_27 rfl (Or.inr ⟨rfl, rfl, rfl, by decide⟩) (show zK _ 8 = 3 from rfl) (by decide) ?_
  rw [zmk_G]
  refine zw_aload_n dX3_init_58 rfl ?_
  refine zw_sipush (x := 1024) dX3_init_59 rfl ?_
  refine zw_newI (N := 1024) dX3_init_62 rfl (Nat.le_of_ble_eq_true rfl) ⟨Nat.le_of_ble_eq_true rfl, Nat.le_of_ble_eq_true rfl⟩ ?_
  rw [show zn (zMk [(14, 100), (13, 100), (12, 100), (11, 100), (10, 100), (9, 100), (8, 3), (7, 100), (6, 100), (5, 103), (4, 100), (3, 100), (2, 2), (1, 5), (0, 100)] [(14, 401), (13, 400), (12, 400), (11, 400), (10, 400), (9, 400), (7, 4), (6, 4), (5, 80), (4, 5), (3, 5), (0, L)] [(8, 3, 5, 14), (8, 3, 4, 13), (8, 3, 3, 12), (8, 3, 2, 11), (8, 3, 1, 10), (8, 3, 0, 9), (1, 5, 0, 2), (2, 2, 4, 7), (2, 2, 3, 6), (2, 2, 2, 5), (2, 2, 1, 4), (2, 2, 0, 3)] [] [] xs 15) = 15 from rfl, zmk_A (k1 := 100) (n1 := 16) rfl rfl (by decide) (fun _ => rfl)]
  refine zw_putO dX3_init_64 zfX3_30 rfl (Or.inr ⟨rfl, rfl, rfl, by decide⟩) (show zK _ 8 = 3 from rfl) (by decide) ?_
  rw [zmk_G]
  refine zw_aload_n dX3_init_67 rfl ?_
  refine zw_sipush (x := 2048) dX3_init_68 rfl ?_
  refine zw_newI (N := 2048) dX3_init_71 rfl (Nat.le_of_ble_eq_true rfl) ⟨Nat.le_of_ble_eq_true rfl, Nat.le_of_ble_eq_true rfl⟩ ?_
  rw [show zn (zMk [(15, 100), (14, 100), (13, 100), (12, 100), (11, 100), (10, 100), (9, 100), (8, 3), (7, 100), (6, 100), (5, 103), (4, 100), (3, 100), (2, 2), (1, 5), (0, 100)] [(15, 1024), (14, 401), (13, 400), (12, 400), (11, 400), (10, 400), (9, 400), (7, 4), (6, 4), (5, 80), (4, 5), (3, 5), (0, L)] [(8, 3, 6, 15), (8, 3, 5, 14), (8, 3, 4, 13), (8, 3, 3, 12), (8, 3, 2, 11), (8, 3, 1, 10), (8, 3, 0, 9), (1, 5, 0, 2), (2, 2, 4, 7), (2, 2, 3, 6), (2, 2, 2, 5), (2, 2, 1, 4), (2, 2, 0, 3)] [] [] xs 16) = 16 from rfl, zmk_A (k1 := 100) (n1 := 17) rfl rfl (by decide) (fun _ => rfl)]
  refine zw_putO dX3_init_73 zfX3_33 rfl (Or.inl rfl) (show zK _ 8 = 3 from rfl) (by decide) ?_
  rw [zmk_G]
  refine zw_vret dX3_init_76 rfl ?_
  exact ⟨rfl, rfl⟩
set_option maxHeartbeats 4000000 in
set_option maxRecDepth 100000 in
theorem c1_X0_init {l : Launch} {L : Nat} {xs : Nat → Int32} : zAM l zmX0_init 1 20 3 36 [.ref 17] (zMk [(17, 0), (16, 100), (15, 100), (14, 100), (13, 100), (12, 100), (11, 100), (10, 100), (9, 100), (8, 3), (7, 100), (6, 100), (5, 103), (4, 100), (3, 100), (2, 2), (1, 5), (0, 100)] [(16, 2048), (15, 1024), (14, 401), (13, 400), (12, 400), (11, 400), (10, 400), (9, 400), (7, 4), (6, 4), (5, 80), (4, 5), (3, 5), (0, L)] [(1, 5, 1, 8), (8, 3, 7, 16), (8, 3, 6, 15), (8, 3, 5, 14), (8, 3, 4, 13), (8, 3, 3, 12), (8, 3, 2, 11), (8, 3, 1, 10), (8, 3, 0, 9), (1, 5, 0, 2), (2, 2, 4, 7), (2, 2, 3, 6), (2, 2, 2, 5), (2, 2, 1, 4), (2, 2, 0, 3)] [] [] xs 18) (fun v σ' => v = none ∧ σ' = zMk [(20, 100), (19, 100), (18, 100), (17, 0), (16, 100), (15, 100), (14, 100), (13, 100), (12, 100), (11, 100), (10, 100), (9, 100), (8, 3), (7, 100), (6, 100), (5, 103), (4, 100), (3, 100), (2, 2), (1, 5), (0, 100)] [(20, 12), (19, 12), (18, 12), (16, 2048), (15, 1024), (14, 401), (13, 400), (12, 400), (11, 400), (10, 400), (9, 400), (7, 4), (6, 4), (5, 80), (4, 5), (3, 5), (0, L)] [(17, 0, 2, 20), (17, 0, 1, 19), (17, 0, 0, 18), (1, 5, 1, 8), (8, 3, 7, 16), (8, 3, 6, 15), (8, 3, 5, 14), (8, 3, 4, 13), (8, 3, 3, 12), (8, 3, 2, 11), (8, 3, 1, 10), (8, 3, 0, 9), (1, 5, 0, 2), (2, 2, 4, 7), (2, 2, 3, 6), (2, 2, 2, 5), (2, 2, 1, 4), (2, 2, 0, 3)] [] [] xs 21) := by
  refine zAM.of (by decide +kernel) (Nat.le_of_ble_eq_true rfl) ?_
  refine zw_aload_n dX0_init_0 rfl ?_
  refine zw_objInit dX0_init_1 zoX0_3 ⟨Nat.le_of_ble_eq_true rfl, Nat.le_of_ble_eq_true rfl⟩ ?_
  refine zw_aload_n dX0_init_4 rfl ?_
  refine zw_bipush (x := 12) dX0_init_5 rfl ?_
  refine zw_newI (N := 12) dX0_init_7 rfl (Nat.le_of_ble_eq_true rfl) ⟨Nat.le_of_ble_eq_true rfl, Nat.le_of_ble_eq_true rfl⟩ ?_
  rw [show zn (zMk [(17, 0), (16, 100), (15, 100), (14, 100), (13, 100), (12, 100), (11, 100), (10, 100), (9, 100), (8, 3), (7, 100), (6, 100), (5, 103), (4, 100), (3, 100), (2, 2), (1, 5), (0, 100)] [(16, 2048), (15, 1024), (14, 401), (13, 400), (12, 400), (11, 400), (10, 400), (9, 400), (7, 4), (6, 4), (5, 80), (4, 5), (3, 5), (0, L)] [(1, 5, 1, 8), (8, 3, 7, 16), (8, 3, 6, 15), (8, 3, 5, 14), (8, 3, 4, 13), (8, 3, 3, 12), (8, 3, 2, 11), (8, 3, 1, 10), (8, 3, 0, 9), (1, 5, 0, 2), (2, 2, 4, 7), (2, 2, 3, 6), (2, 2, 2, 5), (2, 2, 1, 4), (2, 2, 0, 3)] [] [] xs 18) = 18 from rfl, zmk_A (k1 := 100) (n1 := 19) rfl rfl (by decide) (fun _ => rfl)]
  refine zw_putO dX0_init_9 zfX0_9 rfl (Or.inr ⟨rfl, rfl, rfl, by decide⟩) (show zK _ 17 = 0 from rfl) (by decide) ?_
  rw [zmk_G]
  refine zw_aload_n dX0_init_12 rfl ?_
  refine zw_bipush (x := 12) dX0_init_13 rfl ?_
  refine zw_newI (N := 12) dX0_init_15 rfl (Nat.le_of_ble_eq_true rfl) ⟨Nat.le_of_ble_eq_true rfl, Nat.le_of_ble_eq_true rfl⟩ ?_
  rw [show zn (zMk [(18, 100), (17, 0), (16, 100), (15, 100), (14, 100), (13, 100), (12, 100), (11, 100), (10, 100), (9, 100), (8, 3), (7, 100), (6, 100), (5, 103), (4, 100), (3, 100), (2, 2), (1, 5), (0, 100)] [(18, 12), (16, 2048), (15, 1024), (14, 401), (13, 400), (12, 400), (11, 400), (10, 400), (9, 400), (7, 4), (6, 4), (5, 80), (4, 5), (3, 5), (0, L)] [(17, 0, 0, 18), (1, 5, 1, 8), (8, 3, 7, 16), (8, 3, 6, 15), (8, 3, 5, 14), (8, 3, 4, 13), (8, 3, 3, 12), (8, 3, 2, 11), (8, 3, 1, 10), (8, 3, 0, 9), (1, 5, 0, 2), (2, 2, 4, 7), (2, 2, 3, 6), (2, 2, 2, 5), (2, 2, 1, 4), (2, 2, 0, 3)] [] [] xs 19) = 19 from rfl, zmk_A (k1 := 100) (n1 := 20) rfl rfl (by decide) (fun _ => rfl)]
  refine zw_putO dX0_init_17 zfX0_15 rfl (Or.inr ⟨rfl, rfl, rfl, by decide⟩) (show zK _ 17 = 0 from rfl) (by decide) ?_
  rw [zmk_G]
  refine zw_aload_n dX0_init_20 rfl ?_
  refine zw_bipush (x := 12) dX0_init_21 rfl ?_
  refine zw_newI (N := 12) dX0_init_23 rfl (Nat.le_of_ble_eq_true rfl) ⟨Nat.le_of_ble_eq_true rfl, Nat.le_of_ble_eq_true rfl⟩ ?_
  rw [show zn (zMk [(19, 100), (18, 100), (17, 0), (16, 100), (15, 100), (14, 100), (13, 100), (12, 100), (11, 100), (10, 100), (9, 100), (8, 3), (7, 100), (6, 100), (5, 103), (4, 100), (3, 100), (2, 2), (1, 5), (0, 100)] [(19, 12), (18, 12), (16, 2048), (15, 1024), (14, 401), (13, 400), (12, 400), (11, 400), (10, 400), (9, 400), (7, 4), (6, 4), (5, 80), (4, 5), (3, 5), (0, L)] [(17, 0, 1, 19), (17, 0, 0, 18), (1, 5, 1, 8), (8, 3, 7, 16), (8, 3, 6, 15), (8, 3, 5, 14), (8, 3, 4, 13), (8, 3, 3, 12), (8, 3, 2, 11), (8, 3, 1, 10), (8, 3, 0, 9), (1, 5, 0, 2), (2, 2, 4, 7), (2, 2, 3, 6), (2, 2, 2, 5), (2, 2, 1, 4), (2, 2, 0, 3)] [] [] xs 20) = 20 from rfl, zmk_A (k1 := 100) (n1 := 21) rfl rfl (by decide) (fun _ => rfl)]
  refine zw_putO dX0_init_25 zfX0_18 rfl (Or.inr ⟨rfl, rfl, rfl, by decide⟩) (show zK _ 17 = 0 from rfl) (by decide) ?_
  rw [zmk_G]
  refine zw_vret dX0_init_28 rfl ?_
  exact ⟨rfl, rfl⟩
set_option maxHeartbeats 4000000 in
set_option maxRecDepth 100000 in
theorem c1_X4_init {l : Launch} {L : Nat} {xs : Nat → Int32} : zAM l zmX4_init 1 20 8 3200 [.ref 21] (zMk [(21, 4), (20, 100), (19, 100), (18, 100), (17, 0), (16, 100), (15, 100), (14, 100), (13, 100), (12, 100), (11, 100), (10, 100), (9, 100), (8, 3), (7, 100), (6, 100), (5, 103), (4, 100), (3, 100), (2, 2), (1, 5), (0, 100)] [(20, 12), (19, 12), (18, 12), (16, 2048), (15, 1024), (14, 401), (13, 400), (12, 400), (11, 400), (10, 400), (9, 400), (7, 4), (6, 4), (5, 80), (4, 5), (3, 5), (0, L)] [(1, 5, 2, 17), (17, 0, 2, 20), (17, 0, 1, 19), (17, 0, 0, 18), (1, 5, 1, 8), (8, 3, 7, 16), (8, 3, 6, 15), (8, 3, 5, 14), (8, 3, 4, 13), (8, 3, 3, 12), (8, 3, 2, 11), (8, 3, 1, 10), (8, 3, 0, 9), (1, 5, 0, 2), (2, 2, 4, 7), (2, 2, 3, 6), (2, 2, 2, 5), (2, 2, 1, 4), (2, 2, 0, 3)] [] [] xs 22) (fun v σ' => v = none ∧ σ' = zMk [(29, 100), (28, 100), (27, 100), (26, 100), (25, 100), (24, 101), (23, 101), (22, 101), (21, 4), (20, 100), (19, 100), (18, 100), (17, 0), (16, 100), (15, 100), (14, 100), (13, 100), (12, 100), (11, 100), (10, 100), (9, 100), (8, 3), (7, 100), (6, 100), (5, 103), (4, 100), (3, 100), (2, 2), (1, 5), (0, 100)] [(29, 400), (28, 400), (27, 400), (26, 400), (25, 400), (24, 400), (23, 400), (22, 400), (20, 12), (19, 12), (18, 12), (16, 2048), (15, 1024), (14, 401), (13, 400), (12, 400), (11, 400), (10, 400), (9, 400), (7, 4), (6, 4), (5, 80), (4, 5), (3, 5), (0, L)] [(21, 4, 7, 29), (21, 4, 6, 28), (21, 4, 5, 27), (21, 4, 4, 26), (21, 4, 3, 25), (21, 4, 2, 24), (21, 4, 1, 23), (21, 4, 0, 22), (1, 5, 2, 17), (17, 0, 2, 20), (17, 0, 1, 19), (17, 0, 0, 18), (1, 5, 1, 8), (8, 3, 7, 16), (8, 3, 6, 15), (8, 3, 5, 14), (8, 3, 4, 13), (8, 3, 3, 12), (8, 3, 2, 11), (8, 3, 1, 10), (8, 3, 0, 9), (1, 5, 0, 2), (2, 2, 4, 7), (2, 2, 3, 6), (2, 2, 2, 5), (2, 2, 1, 4), (2, 2, 0, 3)] [(21, 4, 11, (-1))] [] xs 30) := by
  refine zAM.of (by decide +kernel) (Nat.le_of_ble_eq_true rfl) ?_
  refine zw_aload_n dX4_init_0 rfl ?_
  refine zw_objInit dX4_init_1 zoX4_3 ⟨Nat.le_of_ble_eq_true rfl, Nat.le_of_ble_eq_true rfl⟩ ?_
  refine zw_aload_n dX4_init_4 rfl ?_
  refine zw_sipush (x := 400) dX4_init_5 rfl ?_
  refine zw_newZ (N := 400) dX4_init_8 rfl (Nat.le_of_ble_eq_true rfl) ⟨Nat.le_of_ble_eq_true rfl, Nat.le_of_ble_eq_true rfl⟩ ?_
  rw [show zn (zMk [(21, 4), (20, 100), (19, 100), (18, 100), (17, 0), (16, 100), (15, 100), (14, 100), (13, 100), (12, 100), (11, 100), (10, 100), (9, 100), (8, 3), (7, 100), (6, 100), (5, 103), (4, 100), (3, 100), (2, 2), (1, 5), (0, 100)] [(20, 12), (19, 12), (18, 12), (16, 2048), (15, 1024), (14, 401), (13, 400), (12, 400), (11, 400), (10, 400), (9, 400), (7, 4), (6, 4), (5, 80), (4, 5), (3, 5), (0, L)] [(1, 5, 2, 17), (17, 0, 2, 20), (17, 0, 1, 19), (17, 0, 0, 18), (1, 5, 1, 8), (8, 3, 7, 16), (8, 3, 6, 15), (8, 3, 5, 14), (8, 3, 4, 13), (8, 3, 3, 12), (8, 3, 2, 11), (8, 3, 1, 10), (8, 3, 0, 9), (1, 5, 0, 2), (2, 2, 4, 7), (2, 2, 3, 6), (2, 2, 2, 5), (2, 2, 1, 4), (2, 2, 0, 3)] [] [] xs 22) = 22 from rfl, zmk_A (k1 := 101) (n1 := 23) rfl rfl (by decide) (fun _ => rfl)]
  refine zw_putO dX4_init_10 zfX4_9 rfl (Or.inr ⟨rfl, rfl, rfl, by decide⟩) (show zK _ 21 = 4 from rfl) (by decide) ?_
  rw [zmk_G]
  refine zw_aload_n dX4_init_13 rfl ?_
  refine zw_sipush (x := 400) dX4_init_14 rfl ?_
  refine zw_newZ (N := 400) dX4_init_17 rfl (Nat.le_of_ble_eq_true rfl) ⟨Nat.le_of_ble_eq_true rfl, Nat.le_of_ble_eq_true rfl⟩ ?_
  rw [show zn (zMk [(22, 101), (21, 4), (20, 100), (19, 100), (18, 100), (17, 0), (16, 100), (15, 100), (14, 100), (13, 100), (12, 100), (11, 100), (10, 100), (9, 100), (8, 3), (7, 100), (6, 100), (5, 103), (4, 100), (3, 100), (2, 2), (1, 5), (0, 100)] [(22, 400), (20, 12), (19, 12), (18, 12), (16, 2048), (15, 1024), (14, 401), (13, 400), (12, 400), (11, 400), (10, 400), (9, 400), (7, 4), (6, 4), (5, 80), (4, 5), (3, 5), (0, L)] [(21, 4, 0, 22), (1, 5, 2, 17), (17, 0, 2, 20), (17, 0, 1, 19), (17, 0, 0, 18), (1, 5, 1, 8), (8, 3, 7, 16), (8, 3, 6, 15), (8, 3, 5, 14), (8, 3, 4, 13), (8, 3, 3, 12), (8, 3, 2, 11), (8, 3, 1, 10), (8, 3, 0, 9), (1, 5, 0, 2), (2, 2, 4, 7), (2, 2, 3, 6), (2, 2, 2, 5), (2, 2, 1, 4), (2, 2, 0, 3)] [] [] xs 23) = 23 from rfl, zmk_A (k1 := 101) (n1 := 24) rfl rfl (by decide) (fun _ => rfl)]
  refine zw_putO dX4_init_19 zfX4_15 rfl (Or.inr ⟨rfl, rfl, rfl, by decide⟩) (show zK _ 21 = 4 from rfl) (by decide) ?_
  rw [zmk_G]
  refine zw_aload_n dX4_init_22 rfl ?_
  refine zw_sipush (x := 400) dX4_init_23 rfl ?_
  refine zw_newZ (N := 400) dX4_init_26 rfl (Nat.le_of_ble_eq_true rfl) ⟨Nat.le_of_ble_eq_true rfl, Nat.le_of_ble_eq_true rfl⟩ ?_
  rw [show zn (zMk [(23, 101), (22, 101), (21, 4), (20, 100), (19, 100), (18, 100), (17, 0), (16, 100), (15, 100), (14, 100), (13, 100), (12, 100), (11, 100), (10, 100), (9, 100), (8, 3), (7, 100), (6, 100), (5, 103), (4, 100), (3, 100), (2, 2), (1, 5), (0, 100)] [(23, 400), (22, 400), (20, 12), (19, 12), (18, 12), (16, 2048), (15, 1024), (14, 401), (13, 400), (12, 400), (11, 400), (10, 400), (9, 400), (7, 4), (6, 4), (5, 80), (4, 5), (3, 5), (0, L)] [(21, 4, 1, 23), (21, 4, 0, 22), (1, 5, 2, 17), (17, 0, 2, 20), (17, 0, 1, 19), (17, 0, 0, 18), (1, 5, 1, 8), (8, 3, 7, 16), (8, 3, 6, 15), (8, 3, 5, 14), (8, 3, 4, 13), (8, 3, 3, 12), (8, 3, 2, 11), (8, 3, 1, 10), (8, 3, 0, 9), (1, 5, 0, 2), (2, 2, 4, 7), (2, 2, 3, 6), (2, 2, 2, 5), (2, 2, 1, 4), (2, 2, 0, 3)] [] [] xs 24) = 24 from rfl, zmk_A (k1 := 101) (n1 := 25) rfl rfl (by decide) (fun _ => rfl)]
  refine zw_putO dX4_init_28 zfX4_18 rfl (Or.inr ⟨rfl, rfl, rfl, by decide⟩) (show zK _ 21 = 4 from rfl) (by decide) ?_
  rw [zmk_G]
  refine zw_aload_n dX4_init_31 rfl ?_
  refine zw_sipush (x := 400) dX4_init_32 rfl ?_
  refine zw_newI (N := 400) dX4_init_35 rfl (Nat.le_of_ble_eq_true rfl) ⟨Nat.le_of_ble_eq_true rfl, Nat.le_of_ble_eq_true rfl⟩ ?_
  rw [show zn (zMk [(24, 101), (23, 101), (22, 101), (21, 4), (20, 100), (19, 100), (18, 100), (17, 0), (16, 100), (15, 100), (14, 100), (13, 100), (12, 100), (11, 100), (10, 100), (9, 100), (8, 3), (7, 100), (6, 100), (5, 103), (4, 100), (3, 100), (2, 2), (1, 5), (0, 100)] [(24, 400), (23, 400), (22, 400), (20, 12), (19, 12), (18, 12), (16, 2048), (15, 1024), (14, 401), (13, 400), (12, 400), (11, 400), (10, 400), (9, 400), (7, 4), (6, 4), (5, 80), (4, 5), (3, 5), (0, L)] [(21, 4, 2, 24), (21, 4, 1, 23), (21, 4, 0, 22), (1, 5, 2, 17), (17, 0, 2, 20), (17, 0, 1, 19), (17, 0, 0, 18), (1, 5, 1, 8), (8, 3, 7, 16), (8, 3, 6, 15), (8, 3, 5, 14), (8, 3, 4, 13), (8, 3, 3, 12), (8, 3, 2, 11), (8, 3, 1, 10), (8, 3, 0, 9), (1, 5, 0, 2), (2, 2, 4, 7), (2, 2, 3, 6), (2, 2, 2, 5), (2, 2, 1, 4), (2, 2, 0, 3)] [] [] xs 25) = 25 from rfl, zmk_A (k1 := 100) (n1 := 26) rfl rfl (by decide) (fun _ => rfl)]
  refine zw_putO dX4_init_37 zfX4_21 rfl (Or.inr ⟨rfl, rfl, rfl, by decide⟩) (show zK _ 21 = 4 from rfl) (by decide) ?_
  rw [zmk_G]
  refine zw_aload_n dX4_init_40 rfl ?_
  refine zw_sipush (x := 400) dX4_init_41 rfl ?_
  refine zw_newI (N := 400) dX4_init_44 rfl (Nat.le_of_ble_eq_true rfl) ⟨Nat.le_of_ble_eq_true rfl, Nat.le_of_ble_eq_true rfl⟩ ?_
  rw [show zn (zMk [(25, 100), (24, 101), (23, 101), (22, 101), (21, 4), (20, 100), (19, 100), (18, 100), (17, 0), (16, 100), (15, 100), (14, 100), (13, 100), (12, 100), (11, 100), (10, 100), (9, 100), (8, 3), (7, 100), (6, 100), (5, 103), (4, 100), (3, 100), (2, 2), (1, 5), (0, 100)] [(25, 400), (24, 400), (23, 400), (22, 400), (20, 12), (19, 12), (18, 12), (16, 2048), (15, 1024), (14, 401), (13, 400), (12, 400), (11, 400), (10, 400), (9, 400), (7, 4), (6, 4), (5, 80), (4, 5), (3, 5), (0, L)] [(21, 4, 3, 25), (21, 4, 2, 24), (21, 4, 1, 23), (21, 4, 0, 22), (1, 5, 2, 17), (17, 0, 2, 20), (17, 0, 1, 19), (17, 0, 0, 18), (1, 5, 1, 8), (8, 3, 7, 16), (8, 3, 6, 15), (8, 3, 5, 14), (8, 3, 4, 13), (8, 3, 3, 12), (8, 3, 2, 11), (8, 3, 1, 10), (8, 3, 0, 9), (1, 5, 0, 2), (2, 2, 4, 7), (2, 2, 3, 6), (2, 2, 2, 5), (2, 2, 1, 4), (2, 2, 0, 3)] [] [] xs 26) = 26 from rfl, zmk_A (k1 := 100) (n1 := 27) rfl rfl (by decide) (fun _ => rfl)]
  refine zw_putO dX4_init_46 zfX4_25 rfl (Or.inr ⟨rfl, rfl, rfl, by decide⟩) (show zK _ 21 = 4 from rfl) (by decide) ?_
  rw [zmk_G]
  refine zw_aload_n dX4_init_49 rfl ?_
  refine zw_sipush (x := 400) dX4_init_50 rfl ?_
  refine zw_newI (N := 400) dX4_init_53 rfl (Nat.le_of_ble_eq_true rfl) ⟨Nat.le_of_ble_eq_true rfl, Nat.le_of_ble_eq_true rfl⟩ ?_
  rw [show zn (zMk [(26, 100), (25, 100), (24, 101), (23, 101), (22, 101), (21, 4), (20, 100), (19, 100), (18, 100), (17, 0), (16, 100), (15, 100), (14, 100), (13, 100), (12, 100), (11, 100), (10, 100), (9, 100), (8, 3), (7, 100), (6, 100), (5, 103), (4, 100), (3, 100), (2, 2), (1, 5), (0, 100)] [(26, 400), (25, 400), (24, 400), (23, 400), (22, 400), (20, 12), (19, 12), (18, 12), (16, 2048), (15, 1024), (14, 401), (13, 400), (12, 400), (11, 400), (10, 400), (9, 400), (7, 4), (6, 4), (5, 80), (4, 5), (3, 5), (0, L)] [(21, 4, 4, 26), (21, 4, 3, 25), (21, 4, 2, 24), (21, 4, 1, 23), (21, 4, 0, 22), (1, 5, 2, 17), (17, 0, 2, 20), (17, 0, 1, 19), (17, 0, 0, 18), (1, 5, 1, 8), (8, 3, 7, 16), (8, 3, 6, 15), (8, 3, 5, 14), (8, 3, 4, 13), (8, 3, 3, 12), (8, 3, 2, 11), (8, 3, 1, 10), (8, 3, 0, 9), (1, 5, 0, 2), (2, 2, 4, 7), (2, 2, 3, 6), (2, 2, 2, 5), (2, 2, 1, 4), (2, 2, 0, 3)] [] [] xs 27) = 27 from rfl, zmk_A (k1 := 100) (n1 := 28) rfl rfl (by decide) (fun _ => rfl)]
  refine zw_putO dX4_init_55 zfX4_28 rfl (Or.inr ⟨rfl, rfl, rfl, by decide⟩) (show zK _ 21 = 4 from rfl) (by decide) ?_
  rw [zmk_G]
  refine zw_aload_n dX4_init_58 rfl ?_
  refine zw_sipush (x := 400) dX4_init_59 rfl ?_
  refine zw_newI (N := 400) dX4_init_62 rfl (Nat.le_of_ble_eq_true rfl) ⟨Nat.le_of_ble_eq_true rfl, Nat.le_of_ble_eq_true rfl⟩ ?_
  rw [show zn (zMk [(27, 100), (26, 100), (25, 100), (24, 101), (23, 101), (22, 101), (21, 4), (20, 100), (19, 100), (18, 100), (17, 0), (16, 100), (15, 100), (14, 100), (13, 100), (12, 100), (11, 100), (10, 100), (9, 100), (8, 3), (7, 100), (6, 100), (5, 103), (4, 100), (3, 100), (2, 2), (1, 5), (0, 100)] [(27, 400), (26, 400), (25, 400), (24, 400), (23, 400), (22, 400), (20, 12), (19, 12), (18, 12), (16, 2048), (15, 1024), (14, 401), (13, 400), (12, 400), (11, 400), (10, 400), (9, 400), (7, 4), (6, 4), (5, 80), (4, 5), (3, 5), (0, L)] [(21, 4, 5, 27), (21, 4, 4, 26), (21, 4, 3, 25), (21, 4, 2, 24), (21, 4, 1, 23), (21, 4, 0, 22), (1, 5, 2, 17), (17, 0, 2, 20), (17, 0, 1, 19), (17, 0, 0, 18), (1, 5, 1, 8), (8, 3, 7, 16), (8, 3, 6, 15), (8, 3, 5, 14), (8, 3, 4, 13), (8, 3, 3, 12), (8, 3, 2, 11), (8, 3, 1, 10), (8, 3, 0, 9), (1, 5, 0, 2), (2, 2, 4, 7), (2, 2, 3, 6), (2, 2, 2, 5), (2, 2, 1, 4), (2, 2, 0, 3)] [] [] xs 28) = 28 from rfl, zmk_A (k1 := 100) (n1 := 29) rfl rfl (by decide) (fun _ => rfl)]
  refine zw_putO dX4_init_64 zfX4_31 rfl (Or.inr ⟨rfl, rfl, rfl, by decide⟩) (show zK _ 21 = 4 from rfl) (by decide) ?_
  rw [zmk_G]
  refine zw_aload_n dX4_init_67 rfl ?_
  refine zw_sipush (x := 400) dX4_init_68 rfl ?_
  refine zw_newI (N := 400) dX4_init_71 rfl (Nat.le_of_ble_eq_true rfl) ⟨Nat.le_of_ble_eq_true rfl, Nat.le_of_ble_eq_true rfl⟩ ?_
  rw [show zn (zMk [(28, 100), (27, 100), (26, 100), (25, 100), (24, 101), (23, 101), (22, 101), (21, 4), (20, 100), (19, 100), (18, 100), (17, 0), (16, 100), (15, 100), (14, 100), (13, 100), (12, 100), (11, 100), (10, 100), (9, 100), (8, 3), (7, 100), (6, 100), (5, 103), (4, 100), (3, 100), (2, 2), (1, 5), (0, 100)] [(28, 400), (27, 400), (26, 400), (25, 400), (24, 400), (23, 400), (22, 400), (20, 12), (19, 12), (18, 12), (16, 2048), (15, 1024), (14, 401), (13, 400), (12, 400), (11, 400), (10, 400), (9, 400), (7, 4), (6, 4), (5, 80), (4, 5), (3, 5), (0, L)] [(21, 4, 6, 28), (21, 4, 5, 27), (21, 4, 4, 26), (21, 4, 3, 25), (21, 4, 2, 24), (21, 4, 1, 23), (21, 4, 0, 22), (1, 5, 2, 17), (17, 0, 2, 20), (17, 0, 1, 19), (17, 0, 0, 18), (1, 5, 1, 8), (8, 3, 7, 16), (8, 3, 6, 15), (8, 3, 5, 14), (8, 3, 4, 13), (8, 3, 3, 12), (8, 3, 2, 11), (8, 3, 1, 10), (8, 3, 0, 9), (1, 5, 0, 2), (2, 2, 4, 7), (2, 2, 3, 6), (2, 2, 2, 5), (2, 2, 1, 4), (2, 2, 0, 3)] [] [] xs 29) = 29 from rfl, zmk_A (k1 := 100) (n1 := 30) rfl rfl (by decide) (fun _ => rfl)]
  refine zw_putO dX4_init_73 zfX4_34 rfl (Or.inr ⟨rfl, rfl, rfl, by decide⟩) (show zK _ 21 = 4 from rfl) (by decide) ?_
  rw [zmk_G]
  refine zw_aload_n dX4_init_76 rfl ?_
  refine zw_iconst (x := -1) dX4_init_77 rfl ?_
  refine zw_putI dX4_init_78 zfX4_37 rfl rfl ⟨rfl, rfl⟩ (show zK _ 21 = 4 from rfl) (by decide) ?_
  rw [zmk_F]
  refine zw_vret dX4_init_81 rfl ?_
  exact ⟨rfl, rfl⟩
set_option maxHeartbeats 4000000 in
set_option maxRecDepth 100000 in
theorem c1_X5_init {l : Launch} {L : Nat} {xs : Nat → Int32} : zAM l zmX5_init 2 40 28 8844 [.ref 1] (zMk [(1, 5), (0, 100)] [(0, L)] [] [] [] xs 2) (fun v σ' => v = none ∧ σ' = zMk [(29, 100), (28, 100), (27, 100), (26, 100), (25, 100), (24, 101), (23, 101), (22, 101), (21, 4), (20, 100), (19, 100), (18, 100), (17, 0), (16, 100), (15, 100), (14, 100), (13, 100), (12, 100), (11, 100), (10, 100), (9, 100), (8, 3), (7, 100), (6, 100), (5, 103), (4, 100), (3, 100), (2, 2), (1, 5), (0, 100)] [(29, 400), (28, 400), (27, 400), (26, 400), (25, 400), (24, 400), (23, 400), (22, 400), (20, 12), (19, 12), (18, 12), (16, 2048), (15, 1024), (14, 401), (13, 400), (12, 400), (11, 400), (10, 400), (9, 400), (7, 4), (6, 4), (5, 80), (4, 5), (3, 5), (0, L)] [(1, 5, 3, 21), (21, 4, 7, 29), (21, 4, 6, 28), (21, 4, 5, 27), (21, 4, 4, 26), (21, 4, 3, 25), (21, 4, 2, 24), (21, 4, 1, 23), (21, 4, 0, 22), (1, 5, 2, 17), (17, 0, 2, 20), (17, 0, 1, 19), (17, 0, 0, 18), (1, 5, 1, 8), (8, 3, 7, 16), (8, 3, 6, 15), (8, 3, 5, 14), (8, 3, 4, 13), (8, 3, 3, 12), (8, 3, 2, 11), (8, 3, 1, 10), (8, 3, 0, 9), (1, 5, 0, 2), (2, 2, 4, 7), (2, 2, 3, 6), (2, 2, 2, 5), (2, 2, 1, 4), (2, 2, 0, 3)] [(21, 4, 11, (-1))] [] xs 30) := by
  refine zAM.of (by decide +kernel) (Nat.le_of_ble_eq_true rfl) ?_
  refine zw_aload_n dX5_init_0 rfl ?_
  refine zw_objInit dX5_init_1 zoX5_3 ⟨Nat.le_of_ble_eq_true rfl, Nat.le_of_ble_eq_true rfl⟩ ?_
  refine zw_aload_n dX5_init_4 rfl ?_
  refine zw_new dX5_init_5 znX5_9 zdef_2 (by decide) ⟨Nat.le_of_ble_eq_true rfl, Nat.le_of_ble_eq_true rfl⟩ ?_
  rw [show zn (zMk [(1, 5), (0, 100)] [(0, L)] [] [] [] xs 2) = 2 from rfl, zmk_C (n1 := 3) rfl (fun _ _ => rfl) (fun _ _ => rfl)]
  refine zw_dup dX5_init_8 rfl ?_
  refine zw_callI (y' := zmX2_init) dX5_init_9 zlX5_11 zmX2_init_ok c1_X2_init rfl rfl (Nat.le_of_ble_eq_true rfl) ⟨Nat.le_of_ble_eq_true rfl, Nat.le_of_ble_eq_true rfl⟩ ⟨Nat.le_of_ble_eq_true rfl, Nat.le_of_ble_eq_true rfl⟩ ?_
  intro v9 s9 q9
  obtain ⟨rfl, rfl⟩ := q9
  refine zw_putO dX5_init_12 zfX5_12 rfl (Or.inr ⟨rfl, rfl, rfl, by decide⟩) (show zK _ 1 = 5 from rfl) (by decide) ?_
  rw [zmk_G]
  refine zw_aload_n dX5_init_15 rfl ?_
  refine zw_new dX5_init_16 znX5_16 zdef_3 (by decide) ⟨Nat.le_of_ble_eq_true rfl, Nat.le_of_ble_eq_true rfl⟩ ?_
  rw [show zn (zMk [(7, 100), (6, 100), (5, 103), (4, 100), (3, 100), (2, 2), (1, 5), (0, 100)] [(7, 4), (6, 4), (5, 80), (4, 5), (3, 5), (0, L)] [(1, 5, 0, 2), (2, 2, 4, 7), (2, 2, 3, 6), (2, 2, 2, 5), (2, 2, 1, 4), (2, 2, 0, 3)] [] [] xs 8) = 8 from rfl, zmk_C (n1 := 9) rfl (fun _ _ => rfl) (fun _ _ => rfl)]
  refine zw_dup dX5_init_19 rfl ?_
  refine zw_callI (y' := zmX3_init) dX5_init_20 zlX5_18 zmX3_init_ok c1_X3_init rfl rfl (Nat.le_of_ble_eq_true rfl) ⟨Nat.le_of_ble_eq_true rfl, Nat.le_of_ble_eq_true rfl⟩ ⟨Nat.le_of_ble_eq_true rfl, Nat.le_of_ble_eq_true rfl⟩ ?_
  intro v20 s20 q20
  obtain ⟨rfl, rfl⟩ := q20
  refine zw_putO dX5_init_23 zfX5_19 rfl (Or.inr ⟨rfl, rfl, rfl, by decide⟩) (show zK _ 1 = 5 from rfl) (by decide) ?_
  rw [zmk_G]
  refine zw_aload_n dX5_init_26 rfl ?_
  refine zw_new dX5_init_27 znX5_23 zdef_0 (by decide) ⟨Nat.le_of_ble_eq_true rfl, Nat.le_of_ble_eq_true rfl⟩ ?_
  rw [show zn (zMk [(16, 100), (15, 100), (14, 100), (13, 100), (12, 100), (11, 100), (10, 100), (9, 100), (8, 3), (7, 100), (6, 100), (5, 103), (4, 100), (3, 100), (2, 2), (1, 5), (0, 100)] [(16, 2048), (15, 1024), (14, 401), (13, 400), (12, 400), (11, 400), (10, 400), (9, 400), (7, 4), (6, 4), (5, 80), (4, 5), (3, 5), (0, L)] [(1, 5, 1, 8), (8, 3, 7, 16), (8, 3, 6, 15), (8, 3, 5, 14), (8, 3, 4, 13), (8, 3, 3, 12), (8, 3, 2, 11), (8, 3, 1, 10), (8, 3, 0, 9), (1, 5, 0, 2), (2, 2, 4, 7), (2, 2, 3, 6), (2, 2, 2, 5), (2, 2, 1, 4), (2, 2, 0, 3)] [] [] xs 17) = 17 from rfl, zmk_C (n1 := 18) rfl (fun _ _ => rfl) (fun _ _ => rfl)]
  refine zw_dup dX5_init_30 rfl ?_
  refine zw_callI (y' := zmX0_init) dX5_init_31 zlX5_25 zmX0_init_ok c1_X0_init rfl rfl (Nat.le_of_ble_eq_true rfl) ⟨Nat.le_of_ble_eq_true rfl, Nat.le_of_ble_eq_true rfl⟩ ⟨Nat.le_of_ble_eq_true rfl, Nat.le_of_ble_eq_true rfl⟩ ?_
  intro v31 s31 q31
  obtain ⟨rfl, rfl⟩ := q31
  refine zw_putO dX5_init_34 zfX5_26 rfl (Or.inr ⟨rfl, rfl, rfl, by decide⟩) (show zK _ 1 = 5 from rfl) (by decide) ?_
  rw [zmk_G]
  refine zw_aload_n dX5_init_37 rfl ?_
  refine zw_new dX5_init_38 znX5_30 zdef_4 (by decide) ⟨Nat.le_of_ble_eq_true rfl, Nat.le_of_ble_eq_true rfl⟩ ?_
  rw [show zn (zMk [(20, 100), (19, 100), (18, 100), (17, 0), (16, 100), (15, 100), (14, 100), (13, 100), (12, 100), (11, 100), (10, 100), (9, 100), (8, 3), (7, 100), (6, 100), (5, 103), (4, 100), (3, 100), (2, 2), (1, 5), (0, 100)] [(20, 12), (19, 12), (18, 12), (16, 2048), (15, 1024), (14, 401), (13, 400), (12, 400), (11, 400), (10, 400), (9, 400), (7, 4), (6, 4), (5, 80), (4, 5), (3, 5), (0, L)] [(1, 5, 2, 17), (17, 0, 2, 20), (17, 0, 1, 19), (17, 0, 0, 18), (1, 5, 1, 8), (8, 3, 7, 16), (8, 3, 6, 15), (8, 3, 5, 14), (8, 3, 4, 13), (8, 3, 3, 12), (8, 3, 2, 11), (8, 3, 1, 10), (8, 3, 0, 9), (1, 5, 0, 2), (2, 2, 4, 7), (2, 2, 3, 6), (2, 2, 2, 5), (2, 2, 1, 4), (2, 2, 0, 3)] [] [] xs 21) = 21 from rfl, zmk_C (n1 := 22) rfl (fun _ _ => rfl) (fun _ _ => rfl)]
  refine zw_dup dX5_init_41 rfl ?_
  refine zw_callI (y' := zmX4_init) dX5_init_42 zlX5_32 zmX4_init_ok c1_X4_init rfl rfl (Nat.le_of_ble_eq_true rfl) ⟨Nat.le_of_ble_eq_true rfl, Nat.le_of_ble_eq_true rfl⟩ ⟨Nat.le_of_ble_eq_true rfl, Nat.le_of_ble_eq_true rfl⟩ ?_
  intro v42 s42 q42
  obtain ⟨rfl, rfl⟩ := q42
  refine zw_putO dX5_init_45 zfX5_33 rfl (Or.inr ⟨rfl, rfl, rfl, by decide⟩) (show zK _ 1 = 5 from rfl) (by decide) ?_
  rw [zmk_G]
  refine zw_vret dX5_init_48 rfl ?_
  exact ⟨rfl, rfl⟩
set_option maxHeartbeats 4000000 in
set_option maxRecDepth 100000 in
theorem c1_X6_init {l : Launch} {L : Nat} {xs : Nat → Int32} : zAM l zmX6_init 1 20 13 5 [.ref 30] (zMk [(30, 6), (29, 100), (28, 100), (27, 100), (26, 100), (25, 100), (24, 101), (23, 101), (22, 101), (21, 4), (20, 100), (19, 100), (18, 100), (17, 0), (16, 100), (15, 100), (14, 100), (13, 100), (12, 100), (11, 100), (10, 100), (9, 100), (8, 3), (7, 100), (6, 100), (5, 103), (4, 100), (3, 100), (2, 2), (1, 5), (0, 100)] [(29, 400), (28, 400), (27, 400), (26, 400), (25, 400), (24, 400), (23, 400), (22, 400), (20, 12), (19, 12), (18, 12), (16, 2048), (15, 1024), (14, 401), (13, 400), (12, 400), (11, 400), (10, 400), (9, 400), (7, 4), (6, 4), (5, 80), (4, 5), (3, 5), (0, L)] [(1, 5, 3, 21), (21, 4, 7, 29), (21, 4, 6, 28), (21, 4, 5, 27), (21, 4, 4, 26), (21, 4, 3, 25), (21, 4, 2, 24), (21, 4, 1, 23), (21, 4, 0, 22), (1, 5, 2, 17), (17, 0, 2, 20), (17, 0, 1, 19), (17, 0, 0, 18), (1, 5, 1, 8), (8, 3, 7, 16), (8, 3, 6, 15), (8, 3, 5, 14), (8, 3, 4, 13), (8, 3, 3, 12), (8, 3, 2, 11), (8, 3, 1, 10), (8, 3, 0, 9), (1, 5, 0, 2), (2, 2, 4, 7), (2, 2, 3, 6), (2, 2, 2, 5), (2, 2, 1, 4), (2, 2, 0, 3)] [(21, 4, 11, (-1))] [] xs 31) (fun v σ' => v = none ∧ σ' = zMk [(43, 100), (42, 100), (41, 105), (40, 104), (34, 105), (35, 104), (36, 104), (37, 104), (38, 104), (39, 104), (33, 100), (32, 100), (31, 100), (30, 6), (29, 100), (28, 100), (27, 100), (26, 100), (25, 100), (24, 101), (23, 101), (22, 101), (21, 4), (20, 100), (19, 100), (18, 100), (17, 0), (16, 100), (15, 100), (14, 100), (13, 100), (12, 100), (11, 100), (10, 100), (9, 100), (8, 3), (7, 100), (6, 100), (5, 103), (4, 100), (3, 100), (2, 2), (1, 5), (0, 100)] [(43, 0), (42, 0), (41, 0), (40, 0), (34, 5), (35, 0), (36, 0), (37, 0), (38, 0), (39, 0), (33, 0), (32, 0), (31, 0), (29, 400), (28, 400), (27, 400), (26, 400), (25, 400), (24, 400), (23, 400), (22, 400), (20, 12), (19, 12), (18, 12), (16, 2048), (15, 1024), (14, 401), (13, 400), (12, 400), (11, 400), (10, 400), (9, 400), (7, 4), (6, 4), (5, 80), (4, 5), (3, 5), (0, L)] [(30, 6, 7, 43), (30, 6, 6, 42), (30, 6, 5, 41), (30, 6, 4, 40), (30, 6, 3, 34), (30, 6, 2, 33), (30, 6, 1, 32), (30, 6, 0, 31), (1, 5, 3, 21), (21, 4, 7, 29), (21, 4, 6, 28), (21, 4, 5, 27), (21, 4, 4, 26), (21, 4, 3, 25), (21, 4, 2, 24), (21, 4, 1, 23), (21, 4, 0, 22), (1, 5, 2, 17), (17, 0, 2, 20), (17, 0, 1, 19), (17, 0, 0, 18), (1, 5, 1, 8), (8, 3, 7, 16), (8, 3, 6, 15), (8, 3, 5, 14), (8, 3, 4, 13), (8, 3, 3, 12), (8, 3, 2, 11), (8, 3, 1, 10), (8, 3, 0, 9), (1, 5, 0, 2), (2, 2, 4, 7), (2, 2, 3, 6), (2, 2, 2, 5), (2, 2, 1, 4), (2, 2, 0, 3)] [(21, 4, 11, (-1))] [(34, 35)] xs 44) := by
  refine zAM.of (by decide +kernel) (Nat.le_of_ble_eq_true rfl) ?_
  refine zw_aload_n dX6_init_0 rfl ?_
  refine zw_objInit dX6_init_1 zoX6_1 ⟨Nat.le_of_ble_eq_true rfl, Nat.le_of_ble_eq_true rfl⟩ ?_
  refine zw_aload_n dX6_init_4 rfl ?_
  refine zw_iconst (x := 0) dX6_init_5 rfl ?_
  refine zw_newI (N := 0) dX6_init_6 rfl (Nat.le_of_ble_eq_true rfl) ⟨Nat.le_of_ble_eq_true rfl, Nat.le_of_ble_eq_true rfl⟩ ?_
  rw [show zn (zMk [(30, 6), (29, 100), (28, 100), (27, 100), (26, 100), (25, 100), (24, 101), (23, 101), (22, 101), (21, 4), (20, 100), (19, 100), (18, 100), (17, 0), (16, 100), (15, 100), (14, 100), (13, 100), (12, 100), (11, 100), (10, 100), (9, 100), (8, 3), (7, 100), (6, 100), (5, 103), (4, 100), (3, 100), (2, 2), (1, 5), (0, 100)] [(29, 400), (28, 400), (27, 400), (26, 400), (25, 400), (24, 400), (23, 400), (22, 400), (20, 12), (19, 12), (18, 12), (16, 2048), (15, 1024), (14, 401), (13, 400), (12, 400), (11, 400), (10, 400), (9, 400), (7, 4), (6, 4), (5, 80), (4, 5), (3, 5), (0, L)] [(1, 5, 3, 21), (21, 4, 7, 29), (21, 4, 6, 28), (21, 4, 5, 27), (21, 4, 4, 26), (21, 4, 3, 25), (21, 4, 2, 24), (21, 4, 1, 23), (21, 4, 0, 22), (1, 5, 2, 17), (17, 0, 2, 20), (17, 0, 1, 19), (17, 0, 0, 18), (1, 5, 1, 8), (8, 3, 7, 16), (8, 3, 6, 15), (8, 3, 5, 14), (8, 3, 4, 13), (8, 3, 3, 12), (8, 3, 2, 11), (8, 3, 1, 10), (8, 3, 0, 9), (1, 5, 0, 2), (2, 2, 4, 7), (2, 2, 3, 6), (2, 2, 2, 5), (2, 2, 1, 4), (2, 2, 0, 3)] [(21, 4, 11, (-1))] [] xs 31) = 31 from rfl, zmk_A (k1 := 100) (n1 := 32) rfl rfl (by decide) (fun _ => rfl)]
  refine zw_putO dX6_init_8 zfX6_7 rfl (Or.inl rfl) (show zK _ 30 = 6 from rfl) (by decide) ?_
  rw [zmk_G]
  refine zw_aload_n dX6_init_11 rfl ?_
  refine zw_iconst (x := 0) dX6_init_12 rfl ?_
  refine zw_newI (N := 0) dX6_init_13 rfl (Nat.le_of_ble_eq_true rfl) ⟨Nat.le_of_ble_eq_true rfl, Nat.le_of_ble_eq_true rfl⟩ ?_
  rw [show zn (zMk [(31, 100), (30, 6), (29, 100), (28, 100), (27, 100), (26, 100), (25, 100), (24, 101), (23, 101), (22, 101), (21, 4), (20, 100), (19, 100), (18, 100), (17, 0), (16, 100), (15, 100), (14, 100), (13, 100), (12, 100), (11, 100), (10, 100), (9, 100), (8, 3), (7, 100), (6, 100), (5, 103), (4, 100), (3, 100), (2, 2), (1, 5), (0, 100)] [(31, 0), (29, 400), (28, 400), (27, 400), (26, 400), (25, 400), (24, 400), (23, 400), (22, 400), (20, 12), (19, 12), (18, 12), (16, 2048), (15, 1024), (14, 401), (13, 400), (12, 400), (11, 400), (10, 400), (9, 400), (7, 4), (6, 4), (5, 80), (4, 5), (3, 5), (0, L)] [(30, 6, 0, 31), (1, 5, 3, 21), (21, 4, 7, 29), (21, 4, 6, 28), (21, 4, 5, 27), (21, 4, 4, 26), (21, 4, 3, 25), (21, 4, 2, 24), (21, 4, 1, 23), (21, 4, 0, 22), (1, 5, 2, 17), (17, 0, 2, 20), (17, 0, 1, 19), (17, 0, 0, 18), (1, 5, 1, 8), (8, 3, 7, 16), (8, 3, 6, 15), (8, 3, 5, 14), (8, 3, 4, 13), (8, 3, 3, 12), (8, 3, 2, 11), (8, 3, 1, 10), (8, 3, 0, 9), (1, 5, 0, 2), (2, 2, 4, 7), (2, 2, 3, 6), (2, 2, 2, 5), (2, 2, 1, 4), (2, 2, 0, 3)] [(21, 4, 11, (-1))] [] xs 32) = 32 from rfl, zmk_A (k1 := 100) (n1 := 33) rfl rfl (by decide) (fun _ => rfl)]
  refine zw_putO dX6_init_15 zfX6_13 rfl (Or.inl rfl) (show zK _ 30 = 6 from rfl) (by decide) ?_
  rw [zmk_G]
  refine zw_aload_n dX6_init_18 rfl ?_
  refine zw_iconst (x := 0) dX6_init_19 rfl ?_
  refine zw_newI (N := 0) dX6_init_20 rfl (Nat.le_of_ble_eq_true rfl) ⟨Nat.le_of_ble_eq_true rfl, Nat.le_of_ble_eq_true rfl⟩ ?_
  rw [show zn (zMk [(32, 100), (31, 100), (30, 6), (29, 100), (28, 100), (27, 100), (26, 100), (25, 100), (24, 101), (23, 101), (22, 101), (21, 4), (20, 100), (19, 100), (18, 100), (17, 0), (16, 100), (15, 100), (14, 100), (13, 100), (12, 100), (11, 100), (10, 100), (9, 100), (8, 3), (7, 100), (6, 100), (5, 103), (4, 100), (3, 100), (2, 2), (1, 5), (0, 100)] [(32, 0), (31, 0), (29, 400), (28, 400), (27, 400), (26, 400), (25, 400), (24, 400), (23, 400), (22, 400), (20, 12), (19, 12), (18, 12), (16, 2048), (15, 1024), (14, 401), (13, 400), (12, 400), (11, 400), (10, 400), (9, 400), (7, 4), (6, 4), (5, 80), (4, 5), (3, 5), (0, L)] [(30, 6, 1, 32), (30, 6, 0, 31), (1, 5, 3, 21), (21, 4, 7, 29), (21, 4, 6, 28), (21, 4, 5, 27), (21, 4, 4, 26), (21, 4, 3, 25), (21, 4, 2, 24), (21, 4, 1, 23), (21, 4, 0, 22), (1, 5, 2, 17), (17, 0, 2, 20), (17, 0, 1, 19), (17, 0, 0, 18), (1, 5, 1, 8), (8, 3, 7, 16), (8, 3, 6, 15), (8, 3, 5, 14), (8, 3, 4, 13), (8, 3, 3, 12), (8, 3, 2, 11), (8, 3, 1, 10), (8, 3, 0, 9), (1, 5, 0, 2), (2, 2, 4, 7), (2, 2, 3, 6), (2, 2, 2, 5), (2, 2, 1, 4), (2, 2, 0, 3)] [(21, 4, 11, (-1))] [] xs 33) = 33 from rfl, zmk_A (k1 := 100) (n1 := 34) rfl rfl (by decide) (fun _ => rfl)]
  refine zw_putO dX6_init_22 zfX6_16 rfl (Or.inl rfl) (show zK _ 30 = 6 from rfl) (by decide) ?_
  rw [zmk_G]
  refine zw_aload_n dX6_init_25 rfl ?_
  refine zw_iconst (x := 5) dX6_init_26 rfl ?_
  refine zw_iconst (x := 0) dX6_init_27 rfl ?_
  refine zw_multi (t1 := 5) (t2 := 4) (N := 5) (M := 0) dX6_init_28 zclX6_19 (by decide) (by decide) rfl rfl (Or.inr ⟨_, rfl⟩) ⟨by decide, by decide⟩ (fun _ _ => rfl) ⟨rfl, rfl⟩ rfl rfl (Nat.le_of_ble_eq_true rfl) (Nat.le_of_ble_eq_true rfl) (Nat.le_of_ble_eq_true rfl) ⟨Nat.le_of_ble_eq_true rfl, Nat.le_of_ble_eq_true rfl⟩ ?_
  rw [show zn (zMk [(33, 100), (32, 100), (31, 100), (30, 6), (29, 100), (28, 100), (27, 100), (26, 100), (25, 100), (24, 101), (23, 101), (22, 101), (21, 4), (20, 100), (19, 100), (18, 100), (17, 0), (16, 100), (15, 100), (14, 100), (13, 100), (12, 100), (11, 100), (10, 100), (9, 100), (8, 3), (7, 100), (6, 100), (5, 103), (4, 100), (3, 100), (2, 2), (1, 5), (0, 100)] [(33, 0), (32, 0), (31, 0), (29, 400), (28, 400), (27, 400), (26, 400), (25, 400), (24, 400), (23, 400), (22, 400), (20, 12), (19, 12), (18, 12), (16, 2048), (15, 1024), (14, 401), (13, 400), (12, 400), (11, 400), (10, 400), (9, 400), (7, 4), (6, 4), (5, 80), (4, 5), (3, 5), (0, L)] [(30, 6, 2, 33), (30, 6, 1, 32), (30, 6, 0, 31), (1, 5, 3, 21), (21, 4, 7, 29), (21, 4, 6, 28), (21, 4, 5, 27), (21, 4, 4, 26), (21, 4, 3, 25), (21, 4, 2, 24), (21, 4, 1, 23), (21, 4, 0, 22), (1, 5, 2, 17), (17, 0, 2, 20), (17, 0, 1, 19), (17, 0, 0, 18), (1, 5, 1, 8), (8, 3, 7, 16), (8, 3, 6, 15), (8, 3, 5, 14), (8, 3, 4, 13), (8, 3, 3, 12), (8, 3, 2, 11), (8, 3, 1, 10), (8, 3, 0, 9), (1, 5, 0, 2), (2, 2, 4, 7), (2, 2, 3, 6), (2, 2, 2, 5), (2, 2, 1, 4), (2, 2, 0, 3)] [(21, 4, 11, (-1))] [] xs 34) = 34 from rfl, zmk_M5 (k1 := 105) (k2 := 104) (n1 := 35) (n2 := 36) (n3 := 37) (n4 := 38) (n5 := 39) (n6 := 40) rfl rfl rfl rfl rfl rfl rfl rfl (by decide) (fun _ _ => rfl)]
  refine zw_putO dX6_init_32 zfX6_21 rfl (Or.inl rfl) (show zK _ 30 = 6 from rfl) (by decide) ?_
  rw [zmk_G]
  refine zw_aload_n dX6_init_35 rfl ?_
  refine zw_iconst (x := 0) dX6_init_36 rfl ?_
  refine zw_newA (te := .int) (t := 4) (N := 0) dX6_init_37 zclX6_24 (by decide) (by decide) rfl rfl (Nat.le_of_ble_eq_true rfl) ⟨Nat.le_of_ble_eq_true rfl, Nat.le_of_ble_eq_true rfl⟩ ?_
  rw [show zn (zMk [(34, 105), (35, 104), (36, 104), (37, 104), (38, 104), (39, 104), (33, 100), (32, 100), (31, 100), (30, 6), (29, 100), (28, 100), (27, 100), (26, 100), (25, 100), (24, 101), (23, 101), (22, 101), (21, 4), (20, 100), (19, 100), (18, 100), (17, 0), (16, 100), (15, 100), (14, 100), (13, 100), (12, 100), (11, 100), (10, 100), (9, 100), (8, 3), (7, 100), (6, 100), (5, 103), (4, 100), (3, 100), (2, 2), (1, 5), (0, 100)] [(34, 5), (35, 0), (36, 0), (37, 0), (38, 0), (39, 0), (33, 0), (32, 0), (31, 0), (29, 400), (28, 400), (27, 400), (26, 400), (25, 400), (24, 400), (23, 400), (22, 400), (20, 12), (19, 12), (18, 12), (16, 2048), (15, 1024), (14, 401), (13, 400), (12, 400), (11, 400), (10, 400), (9, 400), (7, 4), (6, 4), (5, 80), (4, 5), (3, 5), (0, L)] [(30, 6, 3, 34), (30, 6, 2, 33), (30, 6, 1, 32), (30, 6, 0, 31), (1, 5, 3, 21), (21, 4, 7, 29), (21, 4, 6, 28), (21, 4, 5, 27), (21, 4, 4, 26), (21, 4, 3, 25), (21, 4, 2, 24), (21, 4, 1, 23), (21, 4, 0, 22), (1, 5, 2, 17), (17, 0, 2, 20), (17, 0, 1, 19), (17, 0, 0, 18), (1, 5, 1, 8), (8, 3, 7, 16), (8, 3, 6, 15), (8, 3, 5, 14), (8, 3, 4, 13), (8, 3, 3, 12), (8, 3, 2, 11), (8, 3, 1, 10), (8, 3, 0, 9), (1, 5, 0, 2), (2, 2, 4, 7), (2, 2, 3, 6), (2, 2, 2, 5), (2, 2, 1, 4), (2, 2, 0, 3)] [(21, 4, 11, (-1))] [(34, 35)] xs 40) = 40 from rfl, zmk_A (k1 := 104) (n1 := 41) rfl rfl (by decide) (fun _ => rfl)]
  refine zw_putO dX6_init_40 zfX6_25 rfl (Or.inl rfl) (show zK _ 30 = 6 from rfl) (by decide) ?_
  rw [zmk_G]
  refine zw_aload_n dX6_init_43 rfl ?_
  refine zw_iconst (x := 0) dX6_init_44 rfl ?_
  refine zw_newA (te := .array .int) (t := 5) (N := 0) dX6_init_45 zclX6_29 (by decide) (by decide) rfl rfl (Nat.le_of_ble_eq_true rfl) ⟨Nat.le_of_ble_eq_true rfl, Nat.le_of_ble_eq_true rfl⟩ ?_
  rw [show zn (zMk [(40, 104), (34, 105), (35, 104), (36, 104), (37, 104), (38, 104), (39, 104), (33, 100), (32, 100), (31, 100), (30, 6), (29, 100), (28, 100), (27, 100), (26, 100), (25, 100), (24, 101), (23, 101), (22, 101), (21, 4), (20, 100), (19, 100), (18, 100), (17, 0), (16, 100), (15, 100), (14, 100), (13, 100), (12, 100), (11, 100), (10, 100), (9, 100), (8, 3), (7, 100), (6, 100), (5, 103), (4, 100), (3, 100), (2, 2), (1, 5), (0, 100)] [(40, 0), (34, 5), (35, 0), (36, 0), (37, 0), (38, 0), (39, 0), (33, 0), (32, 0), (31, 0), (29, 400), (28, 400), (27, 400), (26, 400), (25, 400), (24, 400), (23, 400), (22, 400), (20, 12), (19, 12), (18, 12), (16, 2048), (15, 1024), (14, 401), (13, 400), (12, 400), (11, 400), (10, 400), (9, 400), (7, 4), (6, 4), (5, 80), (4, 5), (3, 5), (0, L)] [(30, 6, 4, 40), (30, 6, 3, 34), (30, 6, 2, 33), (30, 6, 1, 32), (30, 6, 0, 31), (1, 5, 3, 21), (21, 4, 7, 29), (21, 4, 6, 28), (21, 4, 5, 27), (21, 4, 4, 26), (21, 4, 3, 25), (21, 4, 2, 24), (21, 4, 1, 23), (21, 4, 0, 22), (1, 5, 2, 17), (17, 0, 2, 20), (17, 0, 1, 19), (17, 0, 0, 18), (1, 5, 1, 8), (8, 3, 7, 16), (8, 3, 6, 15), (8, 3, 5, 14), (8, 3, 4, 13), (8, 3, 3, 12), (8, 3, 2, 11), (8, 3, 1, 10), (8, 3, 0, 9), (1, 5, 0, 2), (2, 2, 4, 7), (2, 2, 3, 6), (2, 2, 2, 5), (2, 2, 1, 4), (2, 2, 0, 3)] [(21, 4, 11, (-1))] [(34, 35)] xs 41) = 41 from rfl, zmk_A (k1 := 105) (n1 := 42) rfl rfl (by decide) (fun _ => rfl)]
  refine zw_putO dX6_init_48 zfX6_30 rfl (Or.inl rfl) (show zK _ 30 = 6 from rfl) (by decide) ?_
  rw [zmk_G]
  refine zw_aload_n dX6_init_51 rfl ?_
  refine zw_iconst (x := 0) dX6_init_52 rfl ?_
  refine zw_newI (N := 0) dX6_init_53 rfl (Nat.le_of_ble_eq_true rfl) ⟨Nat.le_of_ble_eq_true rfl, Nat.le_of_ble_eq_true rfl⟩ ?_
  rw [show zn (zMk [(41, 105), (40, 104), (34, 105), (35, 104), (36, 104), (37, 104), (38, 104), (39, 104), (33, 100), (32, 100), (31, 100), (30, 6), (29, 100), (28, 100), (27, 100), (26, 100), (25, 100), (24, 101), (23, 101), (22, 101), (21, 4), (20, 100), (19, 100), (18, 100), (17, 0), (16, 100), (15, 100), (14, 100), (13, 100), (12, 100), (11, 100), (10, 100), (9, 100), (8, 3), (7, 100), (6, 100), (5, 103), (4, 100), (3, 100), (2, 2), (1, 5), (0, 100)] [(41, 0), (40, 0), (34, 5), (35, 0), (36, 0), (37, 0), (38, 0), (39, 0), (33, 0), (32, 0), (31, 0), (29, 400), (28, 400), (27, 400), (26, 400), (25, 400), (24, 400), (23, 400), (22, 400), (20, 12), (19, 12), (18, 12), (16, 2048), (15, 1024), (14, 401), (13, 400), (12, 400), (11, 400), (10, 400), (9, 400), (7, 4), (6, 4), (5, 80), (4, 5), (3, 5), (0, L)] [(30, 6, 5, 41), (30, 6, 4, 40), (30, 6, 3, 34), (30, 6, 2, 33), (30, 6, 1, 32), (30, 6, 0, 31), (1, 5, 3, 21), (21, 4, 7, 29), (21, 4, 6, 28), (21, 4, 5, 27), (21, 4, 4, 26), (21, 4, 3, 25), (21, 4, 2, 24), (21, 4, 1, 23), (21, 4, 0, 22), (1, 5, 2, 17), (17, 0, 2, 20), (17, 0, 1, 19), (17, 0, 0, 18), (1, 5, 1, 8), (8, 3, 7, 16), (8, 3, 6, 15), (8, 3, 5, 14), (8, 3, 4, 13), (8, 3, 3, 12), (8, 3, 2, 11), (8, 3, 1, 10), (8, 3, 0, 9), (1, 5, 0, 2), (2, 2, 4, 7), (2, 2, 3, 6), (2, 2, 2, 5), (2, 2, 1, 4), (2, 2, 0, 3)] [(21, 4, 11, (-1))] [(34, 35)] xs 42) = 42 from rfl, zmk_A (k1 := 100) (n1 := 43) rfl rfl (by decide) (fun _ => rfl)]
  refine zw_putO dX6_init_55 zfX6_33 rfl (Or.inl rfl) (show zK _ 30 = 6 from rfl) (by decide) ?_
  rw [zmk_G]
  refine zw_aload_n dX6_init_58 rfl ?_
  refine zw_iconst (x := 0) dX6_init_59 rfl ?_
  refine zw_newI (N := 0) dX6_init_60 rfl (Nat.le_of_ble_eq_true rfl) ⟨Nat.le_of_ble_eq_true rfl, Nat.le_of_ble_eq_true rfl⟩ ?_
  rw [show zn (zMk [(42, 100), (41, 105), (40, 104), (34, 105), (35, 104), (36, 104), (37, 104), (38, 104), (39, 104), (33, 100), (32, 100), (31, 100), (30, 6), (29, 100), (28, 100), (27, 100), (26, 100), (25, 100), (24, 101), (23, 101), (22, 101), (21, 4), (20, 100), (19, 100), (18, 100), (17, 0), (16, 100), (15, 100), (14, 100), (13, 100), (12, 100), (11, 100), (10, 100), (9, 100), (8, 3), (7, 100), (6, 100), (5, 103), (4, 100), (3, 100), (2, 2), (1, 5), (0, 100)] [(42, 0), (41, 0), (40, 0), (34, 5), (35, 0), (36, 0), (37, 0), (38, 0), (39, 0), (33, 0), (32, 0), (31, 0), (29, 400), (28, 400), (27, 400), (26, 400), (25, 400), (24, 400), (23, 400), (22, 400), (20, 12), (19, 12), (18, 12), (16, 2048), (15, 1024), (14, 401), (13, 400), (12, 400), (11, 400), (10, 400), (9, 400), (7, 4), (6, 4), (5, 80), (4, 5), (3, 5), (0, L)] [(30, 6, 6, 42), (30, 6, 5, 41), (30, 6, 4, 40), (30, 6, 3, 34), (30, 6, 2, 33), (30, 6, 1, 32), (30, 6, 0, 31), (1, 5, 3, 21), (21, 4, 7, 29), (21, 4, 6, 28), (21, 4, 5, 27), (21, 4, 4, 26), (21, 4, 3, 25), (21, 4, 2, 24), (21, 4, 1, 23), (21, 4, 0, 22), (1, 5, 2, 17), (17, 0, 2, 20), (17, 0, 1, 19), (17, 0, 0, 18), (1, 5, 1, 8), (8, 3, 7, 16), (8, 3, 6, 15), (8, 3, 5, 14), (8, 3, 4, 13), (8, 3, 3, 12), (8, 3, 2, 11), (8, 3, 1, 10), (8, 3, 0, 9), (1, 5, 0, 2), (2, 2, 4, 7), (2, 2, 3, 6), (2, 2, 2, 5), (2, 2, 1, 4), (2, 2, 0, 3)] [(21, 4, 11, (-1))] [(34, 35)] xs 43) = 43 from rfl, zmk_A (k1 := 100) (n1 := 44) rfl rfl (by decide) (fun _ => rfl)]
  refine zw_putO dX6_init_62 zfX6_36 rfl (Or.inl rfl) (show zK _ 30 = 6 from rfl) (by decide) ?_
  rw [zmk_G]
  refine zw_vret dX6_init_65 rfl ?_
  exact ⟨rfl, rfl⟩
/-- the heap behind the law's two makings -/
abbrev hF1 (L : Nat) (xs : Nat → Int32) : zS := zMk [(29, 100), (28, 100), (27, 100), (26, 100), (25, 100), (24, 101), (23, 101), (22, 101), (21, 4), (20, 100), (19, 100), (18, 100), (17, 0), (16, 100), (15, 100), (14, 100), (13, 100), (12, 100), (11, 100), (10, 100), (9, 100), (8, 3), (7, 100), (6, 100), (5, 103), (4, 100), (3, 100), (2, 2), (1, 5), (0, 100)] [(29, 400), (28, 400), (27, 400), (26, 400), (25, 400), (24, 400), (23, 400), (22, 400), (20, 12), (19, 12), (18, 12), (16, 2048), (15, 1024), (14, 401), (13, 400), (12, 400), (11, 400), (10, 400), (9, 400), (7, 4), (6, 4), (5, 80), (4, 5), (3, 5), (0, L)] [(1, 5, 3, 21), (21, 4, 7, 29), (21, 4, 6, 28), (21, 4, 5, 27), (21, 4, 4, 26), (21, 4, 3, 25), (21, 4, 2, 24), (21, 4, 1, 23), (21, 4, 0, 22), (1, 5, 2, 17), (17, 0, 2, 20), (17, 0, 1, 19), (17, 0, 0, 18), (1, 5, 1, 8), (8, 3, 7, 16), (8, 3, 6, 15), (8, 3, 5, 14), (8, 3, 4, 13), (8, 3, 3, 12), (8, 3, 2, 11), (8, 3, 1, 10), (8, 3, 0, 9), (1, 5, 0, 2), (2, 2, 4, 7), (2, 2, 3, 6), (2, 2, 2, 5), (2, 2, 1, 4), (2, 2, 0, 3)] [(21, 4, 11, (-1))] [] xs 30
abbrev hF (L : Nat) (xs : Nat → Int32) : zS := zMk [(43, 100), (42, 100), (41, 105), (40, 104), (34, 105), (35, 104), (36, 104), (37, 104), (38, 104), (39, 104), (33, 100), (32, 100), (31, 100), (30, 6), (29, 100), (28, 100), (27, 100), (26, 100), (25, 100), (24, 101), (23, 101), (22, 101), (21, 4), (20, 100), (19, 100), (18, 100), (17, 0), (16, 100), (15, 100), (14, 100), (13, 100), (12, 100), (11, 100), (10, 100), (9, 100), (8, 3), (7, 100), (6, 100), (5, 103), (4, 100), (3, 100), (2, 2), (1, 5), (0, 100)] [(43, 0), (42, 0), (41, 0), (40, 0), (34, 5), (35, 0), (36, 0), (37, 0), (38, 0), (39, 0), (33, 0), (32, 0), (31, 0), (29, 400), (28, 400), (27, 400), (26, 400), (25, 400), (24, 400), (23, 400), (22, 400), (20, 12), (19, 12), (18, 12), (16, 2048), (15, 1024), (14, 401), (13, 400), (12, 400), (11, 400), (10, 400), (9, 400), (7, 4), (6, 4), (5, 80), (4, 5), (3, 5), (0, L)] [(30, 6, 7, 43), (30, 6, 6, 42), (30, 6, 5, 41), (30, 6, 4, 40), (30, 6, 3, 34), (30, 6, 2, 33), (30, 6, 1, 32), (30, 6, 0, 31), (1, 5, 3, 21), (21, 4, 7, 29), (21, 4, 6, 28), (21, 4, 5, 27), (21, 4, 4, 26), (21, 4, 3, 25), (21, 4, 2, 24), (21, 4, 1, 23), (21, 4, 0, 22), (1, 5, 2, 17), (17, 0, 2, 20), (17, 0, 1, 19), (17, 0, 0, 18), (1, 5, 1, 8), (8, 3, 7, 16), (8, 3, 6, 15), (8, 3, 5, 14), (8, 3, 4, 13), (8, 3, 3, 12), (8, 3, 2, 11), (8, 3, 1, 10), (8, 3, 0, 9), (1, 5, 0, 2), (2, 2, 4, 7), (2, 2, 3, 6), (2, 2, 2, 5), (2, 2, 1, 4), (2, 2, 0, 3)] [(21, 4, 11, (-1))] [(34, 35)] xs 44
set_option maxRecDepth 100000 in
theorem hF1_sh (L : Nat) (xs : Nat → Int32) : xSh (hF1 L xs) := by
  refine ⟨?_, ?_, ?_⟩
  · intro q hq
    simp only [xKs, List.mem_cons, List.not_mem_nil, or_false] at hq
    rcases hq with rfl | rfl | rfl | rfl | rfl | rfl | rfl | rfl | rfl | rfl | rfl | rfl | rfl | rfl | rfl | rfl | rfl | rfl | rfl | rfl | rfl | rfl | rfl | rfl | rfl | rfl | rfl | rfl <;> rfl
  · intro q hq
    simp only [xLs, List.mem_cons, List.not_mem_nil, or_false] at hq
    rcases hq with rfl | rfl | rfl | rfl | rfl | rfl | rfl | rfl | rfl | rfl | rfl | rfl | rfl | rfl | rfl | rfl | rfl | rfl | rfl | rfl | rfl | rfl | rfl <;> rfl
  · intro q hq
    simp only [xGs, List.mem_cons, List.not_mem_nil, or_false] at hq
    rcases hq with rfl | rfl | rfl | rfl | rfl | rfl | rfl | rfl | rfl | rfl | rfl | rfl | rfl | rfl | rfl | rfl | rfl | rfl | rfl | rfl | rfl | rfl | rfl | rfl | rfl | rfl | rfl <;> rfl
