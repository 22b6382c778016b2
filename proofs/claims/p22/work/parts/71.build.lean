/-! the law's build: its loops over processes and variables -/
set_option maxHeartbeats 4000000 in
set_option maxRecDepth 100000 in
theorem lp_b1 {l : Launch} {P V : Nat} {Q : Option Value → zS → Prop} (hP : P ≤ 3) (KK : ∀ (σ : zS) (ls : List Int32) (mid : Nat → Nat → Nat) (uc us : Nat), ls.length = P → bC σ ls [] [] (List.replicate 5 []) mid → bH σ ls [] [] (List.replicate 5 []) → lsOk ls → uc ≤ 23 → us ≤ 112 → zAW l zmL_build { frames := 4, cells := 100, slots := 1000, locals := 94 } 95 [(0, .ref 1), (1, .ref 0), (2, .ref 30), (3, .int (nI P)), (4, .int (nI V)), (5, .int (nI 0))] [] σ uc us Q) :
    ∀ (d : Nat) (σ : zS) (ls : List Int32) (mid : Nat → Nat → Nat) (uc us : Nat), ls.length + d = P → bC σ ls [] [] (List.replicate 5 []) mid → bH σ ls [] [] (List.replicate 5 []) → lsOk ls → uc ≤ 20 + ls.length → us ≤ 100 + 4 * ls.length → zAW l zmL_build { frames := 4, cells := 100, slots := 1000, locals := 94 } 36 [(0, .ref 1), (1, .ref 0), (2, .ref 30), (3, .int (nI P)), (4, .int (nI V)), (5, .int (nI ls.length))] [] σ uc us Q := by
  intro d
  induction d with
  | zero =>
    intro σ ls mid uc us hd bc bh lo hu1 hu2
    refine zw_iload dL_build_36 rfl ?_
    refine zw_iload_n dL_build_38 rfl ?_
    refine zw_icmpge (tgt := 92) dL_build_39 (by decide) (fun c39 => ?_) (fun c39 => ?_)
    · refine zw_iconst (x := 0) dL_build_92 rfl ?_
      refine zw_istore dL_build_93 (by decide) rfl ?_
      exact zw_loc (lc' := [(0, .ref 1), (1, .ref 0), (2, .ref 30), (3, .int (nI P)), (4, .int (nI V)), (5, .int (nI 0))]) (zsub_cons rfl (zsub_cons rfl (zsub_cons rfl (zsub_cons rfl (zsub_cons rfl (zsub_cons rfl zsub_nil)))))) (KK σ ls mid _ _ (by omega) bc bh lo (by omega) (by omega))
    · exact absurd (nI_le (show P ≤ ls.length by omega) (by omega)) c39
  | succ d ih =>
    intro σ ls mid uc us hd bc bh lo hu1 hu2
    refine zw_wf (fun hw => ?_)
    refine zw_iload dL_build_36 rfl ?_
    refine zw_iload_n dL_build_38 rfl ?_
    refine zw_icmpge (tgt := 92) dL_build_39 (by decide) (fun c39 => ?_) (fun c39 => ?_)
    · exact absurd c39 (nI_ge (show ls.length < P by omega) (by omega))
    · refine zw_iconst (x := 1) dL_build_42 rfl ?_
      refine zw_aload_n dL_build_43 rfl ?_
      refine zw_iconst (x := 1) dL_build_44 rfl ?_
      refine zw_callS (y' := zmL_cell) dL_build_45 zlL_12 zmL_cell_ok (c_L_cell hw.2.1 bc.1.2.2.2 (k := 1) (by decide)) rfl rfl (Nat.le_of_ble_eq_true rfl) ⟨Nat.le_of_ble_eq_true rfl, Nat.le_of_ble_eq_true rfl⟩ ⟨by show _ ≤ 100; omega, by show _ ≤ 1000; omega⟩ ?_
      intro v45 s45 q45
      obtain ⟨⟨x45, rfl⟩, z45⟩ := q45
      rw [z45]
      clear z45
      refine zw_iconst (x := 3) dL_build_48 rfl ?_
      refine zw_iload dL_build_49 rfl ?_
      refine zw_imul dL_build_51 ?_
      refine zw_ishr dL_build_52 ?_
      refine zw_iconst (x := 4) dL_build_53 rfl ?_
      refine zw_callS (y' := zmL_below) dL_build_54 zlL_18 zmL_below_ok (c_L_below (n := 4) (by omega) (by omega)) rfl rfl (Nat.le_of_ble_eq_true rfl) ⟨Nat.le_of_ble_eq_true rfl, Nat.le_of_ble_eq_true rfl⟩ ⟨by show _ ≤ 100; omega, by show _ ≤ 1000; omega⟩ ?_
      intro v54 s54 q54
      obtain ⟨⟨j54, h54, rfl⟩, z54⟩ := q54
      rw [z54]
      clear z54
      refine zw_iadd dL_build_57 ?_
      rw [show (1 : Int32) + nI j54 = nI (j54 + 1) from by rw [Int32.add_comm, nI_1]]
      refine zw_istore dL_build_58 (by decide) rfl ?_
      refine zw_aload_n dL_build_60 rfl ?_
      refine zw_aload_n dL_build_61 rfl ?_
      obtain ⟨la, gl, l30, il⟩ := bh.2.2.1
      refine zw_getR dL_build_62 zfL_22 rfl bh.1 (by decide) gl ?_
      refine zw_iload dL_build_65 rfl ?_
      refine zw_callS (y' := zmX6_more) dL_build_67 zlL_26 zmX6_more_ok (c_X6_more il (by omega)) rfl rfl (Nat.le_of_ble_eq_true rfl) ⟨Nat.le_of_ble_eq_true rfl, Nat.le_of_ble_eq_true rfl⟩ ⟨by show _ ≤ 100; omega, by show _ ≤ 1000; omega⟩ ?_
      intro v67 s67 q67
      obtain ⟨rfl, x67, n67, i67⟩ := q67
      have r30 : 30 < zn σ := by have := bh.2.1; omega
      have bc := bc.x hw x67
      have bh := bh.c x67.c
      refine zw_putO dL_build_70 zfL_22 rfl (Or.inl rfl) bh.1 (by decide) ?_
      have bh := bh.G0 r30 i67
      have bc := bc.G (k := 0) (x := some (zn σ))
      generalize zsG s67 6 0 30 (some (zn σ)) = σ1 at bh bc ⊢
      refine zw_aload_n dL_build_73 rfl ?_
      refine zw_iload dL_build_74 rfl ?_
      refine zw_callV (y' := zmX5_addProcess) dL_build_76 zlL_30 zmX5_addProcess_ok (xk_1 bc.1.1) (by decide) rfl (c_X5_addProcess bc.1.1 bc.2.1.1 (by omega) ⟨nI_le (a := 1) (by omega) (by omega), nI_le (b := 8) (by omega) (by decide)⟩) rfl rfl (Nat.le_of_ble_eq_true rfl) ⟨Nat.le_of_ble_eq_true rfl, Nat.le_of_ble_eq_true rfl⟩ ⟨by show _ ≤ 100; omega, by show _ ≤ 1000; omega⟩ ?_
      intro v76 s76 q76
      obtain ⟨rfl, z76⟩ := q76
      obtain ⟨bc, cc⟩ := bC_proc (x := nI (j54 + 1)) bc
      rw [← z76] at bc cc
      have bh := bh.c cc
      refine zw_iload dL_build_79 rfl ?_
      refine zw_icmpeq (tgt := 86) dL_build_81 (by decide) (fun c81 => ?_) (fun c81 => ?_)
      · refine zw_iinc dL_build_86 rfl (by decide) rfl ?_
        refine zw_goto (tgt := 36) dL_build_89 (by decide) ?_
        have e : (ls ++ [nI (j54 + 1)]).length = ls.length + 1 := by rw [List.length_append]; rfl
        refine zw_loc (lc' := [(0, .ref 1), (1, .ref 0), (2, .ref 30), (3, .int (nI P)), (4, .int (nI V)), (5, .int (nI ls.length + 1))]) (zsub_cons rfl (zsub_cons rfl (zsub_cons rfl (zsub_cons rfl (zsub_cons rfl (zsub_cons rfl zsub_nil)))))) ?_
        rw [nI_1, ← e]
        exact ih s76 (ls ++ [nI (j54 + 1)]) mid _ _ (by rw [e]; omega) bc bh (lo.app (by omega) (by omega)) (by rw [e]; omega) (by rw [e]; omega)
      · exact absurd rfl c81
theorem rep_no {p : Nat} {ms : List hMv} (h : (List.replicate 5 ([] : List hMv))[p]? = some ms) : ms = [] := by
  rw [List.getElem?_replicate] at h
  by_cases e : p < 5
  · rw [if_pos e] at h
    exact (Option.some.inj h).symm
  · rw [if_neg e] at h
    cases h
set_option maxHeartbeats 4000000 in
set_option maxRecDepth 100000 in
theorem lp_b2 {l : Launch} {P V : Nat} {ls : List Int32} {Q : Option Value → zS → Prop} (hV : V ≤ 2) (KK : ∀ (σ : zS) (G B : List Int32) (mid : Nat → Nat → Nat) (uc us : Nat), G.length = V → bC σ ls G B (List.replicate 5 []) mid → bH σ ls G B (List.replicate 5 []) → gOk G B → uc ≤ 34 → us ≤ 136 → zAW l zmL_build { frames := 4, cells := 100, slots := 1000, locals := 94 } 191 [(0, .ref 1), (1, .ref 0), (2, .ref 30), (3, .int (nI P)), (4, .int (nI V)), (5, .int (nI 0))] [] σ uc us Q) :
    ∀ (d : Nat) (σ : zS) (G B : List Int32) (mid : Nat → Nat → Nat) (uc us : Nat), G.length + d = V → bC σ ls G B (List.replicate 5 []) mid → bH σ ls G B (List.replicate 5 []) → gOk G B → uc ≤ 30 + 2 * G.length → us ≤ 120 + 8 * G.length → zAW l zmL_build { frames := 4, cells := 100, slots := 1000, locals := 94 } 95 [(0, .ref 1), (1, .ref 0), (2, .ref 30), (3, .int (nI P)), (4, .int (nI V)), (5, .int (nI G.length))] [] σ uc us Q := by
  intro d
  induction d with
  | zero =>
    intro σ G B mid uc us hd bc bh go hu1 hu2
    refine zw_iload dL_build_95 rfl ?_
    refine zw_iload dL_build_97 rfl ?_
    refine zw_icmpge (tgt := 188) dL_build_99 (by decide) (fun c99 => ?_) (fun c99 => ?_)
    · refine zw_iconst (x := 0) dL_build_188 rfl ?_
      refine zw_istore dL_build_189 (by decide) rfl ?_
      exact zw_loc (lc' := [(0, .ref 1), (1, .ref 0), (2, .ref 30), (3, .int (nI P)), (4, .int (nI V)), (5, .int (nI 0))]) (zsub_cons rfl (zsub_cons rfl (zsub_cons rfl (zsub_cons rfl (zsub_cons rfl (zsub_cons rfl zsub_nil)))))) (KK σ G B mid _ _ (by omega) bc bh go (by omega) (by omega))
    · exact absurd (nI_le (show V ≤ G.length by omega) (by omega)) c99
  | succ d ih =>
    intro σ G B mid uc us hd bc bh go hu1 hu2
    have eB := go.1
    refine zw_wf (fun hw => ?_)
    refine zw_iload dL_build_95 rfl ?_
    refine zw_iload dL_build_97 rfl ?_
    refine zw_icmpge (tgt := 188) dL_build_99 (by decide) (fun c99 => ?_) (fun c99 => ?_)
    · exact absurd c99 (nI_ge (show G.length < V by omega) (by omega))
    · refine zw_iconst (x := 1) dL_build_102 rfl ?_
      refine zw_aload_n dL_build_103 rfl ?_
      refine zw_iconst (x := 2) dL_build_104 rfl ?_
      refine zw_callS (y' := zmL_cell) dL_build_105 zlL_12 zmL_cell_ok (c_L_cell hw.2.1 bc.1.2.2.2 (k := 2) (by decide)) rfl rfl (Nat.le_of_ble_eq_true rfl) ⟨Nat.le_of_ble_eq_true rfl, Nat.le_of_ble_eq_true rfl⟩ ⟨by show _ ≤ 100; omega, by show _ ≤ 1000; omega⟩ ?_
      intro v105 s105 q105
      obtain ⟨⟨x105, rfl⟩, z105⟩ := q105
      rw [z105]
      clear z105
      refine zw_iconst (x := 4) dL_build_108 rfl ?_
      refine zw_iload dL_build_109 rfl ?_
      refine zw_imul dL_build_111 ?_
      refine zw_ishr dL_build_112 ?_
      refine zw_iconst (x := 3) dL_build_113 rfl ?_
      refine zw_callS (y' := zmL_below) dL_build_114 zlL_18 zmL_below_ok (c_L_below (n := 3) (by omega) (by omega)) rfl rfl (Nat.le_of_ble_eq_true rfl) ⟨Nat.le_of_ble_eq_true rfl, Nat.le_of_ble_eq_true rfl⟩ ⟨by show _ ≤ 100; omega, by show _ ≤ 1000; omega⟩ ?_
      intro v114 s114 q114
      obtain ⟨⟨j114, h114, rfl⟩, z114⟩ := q114
      rw [z114]
      clear z114
      refine zw_iadd dL_build_117 ?_
      rw [show (1 : Int32) + nI j114 = nI (j114 + 1) from by rw [Int32.add_comm, nI_1]]
      refine zw_istore dL_build_118 (by decide) rfl ?_
      refine zw_aload_n dL_build_120 rfl ?_
      refine zw_iconst (x := 2) dL_build_121 rfl ?_
      refine zw_callS (y' := zmL_cell) dL_build_122 zlL_12 zmL_cell_ok (c_L_cell hw.2.1 bc.1.2.2.2 (k := 2) (by decide)) rfl rfl (Nat.le_of_ble_eq_true rfl) ⟨Nat.le_of_ble_eq_true rfl, Nat.le_of_ble_eq_true rfl⟩ ⟨by show _ ≤ 100; omega, by show _ ≤ 1000; omega⟩ ?_
      intro v122 s122 q122
      obtain ⟨⟨x122, rfl⟩, z122⟩ := q122
      rw [z122]
      clear z122
      refine zw_iconst (x := 4) dL_build_125 rfl ?_
      refine zw_iload dL_build_126 rfl ?_
      refine zw_imul dL_build_128 ?_
      refine zw_iconst (x := 2) dL_build_129 rfl ?_
      refine zw_iadd dL_build_130 ?_
      refine zw_ishr dL_build_131 ?_
      refine zw_iload dL_build_132 rfl ?_
      refine zw_iconst (x := 1) dL_build_134 rfl ?_
      refine zw_iadd dL_build_135 ?_
      rw [nI_1]
      refine zw_callS (y' := zmL_below) dL_build_136 zlL_18 zmL_below_ok (c_L_below (n := j114 + 1 + 1) (by omega) (by omega)) rfl rfl (Nat.le_of_ble_eq_true rfl) ⟨Nat.le_of_ble_eq_true rfl, Nat.le_of_ble_eq_true rfl⟩ ⟨by show _ ≤ 100; omega, by show _ ≤ 1000; omega⟩ ?_
      intro v136 s136 q136
      obtain ⟨⟨j136, h136, rfl⟩, z136⟩ := q136
      rw [z136]
      clear z136
      refine zw_istore dL_build_139 (by decide) rfl ?_
      refine zw_aload_n dL_build_141 rfl ?_
      refine zw_aload_n dL_build_142 rfl ?_
      obtain ⟨ga, gg, g30, ig⟩ := bh.2.2.2.1
      refine zw_getR dL_build_143 zfL_36 rfl bh.1 (by decide) gg ?_
      refine zw_iload dL_build_146 rfl ?_
      refine zw_callS (y' := zmX6_more) dL_build_148 zlL_26 zmX6_more_ok (c_X6_more ig (by omega)) rfl rfl (Nat.le_of_ble_eq_true rfl) ⟨Nat.le_of_ble_eq_true rfl, Nat.le_of_ble_eq_true rfl⟩ ⟨by show _ ≤ 100; omega, by show _ ≤ 1000; omega⟩ ?_
      intro v148 s148 q148
      obtain ⟨rfl, x148, n148, i148⟩ := q148
      have r148 : 30 < zn σ := by have := bh.2.1; omega
      have bc := bc.x hw x148
      have bh := bh.c x148.c
      refine zw_putO dL_build_151 zfL_36 rfl (Or.inl rfl) bh.1 (by decide) ?_
      have bh := bh.G1 r148 i148
      have bc := bc.G (k := 1) (x := some (zn σ))
      generalize zsG s148 6 1 30 (some (zn σ)) = σ1 at bh bc ⊢
      refine zw_wf (fun hw => ?_)
      refine zw_aload_n dL_build_154 rfl ?_
      refine zw_aload_n dL_build_155 rfl ?_
      obtain ⟨ba, gb, b30, ib⟩ := bh.2.2.2.2.1
      refine zw_getR dL_build_156 zfL_39 rfl bh.1 (by decide) gb ?_
      refine zw_iload dL_build_159 rfl ?_
      refine zw_callS (y' := zmX6_more) dL_build_161 zlL_26 zmX6_more_ok (c_X6_more ib (by omega)) rfl rfl (Nat.le_of_ble_eq_true rfl) ⟨Nat.le_of_ble_eq_true rfl, Nat.le_of_ble_eq_true rfl⟩ ⟨by show _ ≤ 100; omega, by show _ ≤ 1000; omega⟩ ?_
      intro v161 s161 q161
      obtain ⟨rfl, x161, n161, i161⟩ := q161
      have r161 : 30 < zn σ1 := by have := bh.2.1; omega
      have bc := bc.x hw x161
      have bh := bh.c x161.c
      refine zw_putO dL_build_164 zfL_39 rfl (Or.inl rfl) bh.1 (by decide) ?_
      have bh := bh.G2 r161 i161
      have bc := bc.G (k := 2) (x := some (zn σ1))
      generalize zsG s161 6 2 30 (some (zn σ1)) = σ2 at bh bc ⊢
      refine zw_aload_n dL_build_167 rfl ?_
      refine zw_iload dL_build_168 rfl ?_
      refine zw_iload dL_build_170 rfl ?_
      refine zw_callV (y' := zmX5_addVariable) dL_build_172 zlL_42 zmX5_addVariable_ok (xk_1 bc.1.1) (by decide) rfl (c_X5_addVariable bc.1.1 bc.2.1.2 (by omega) ⟨nI_le (a := 1) (by omega) (by omega), nI_le (b := 9) (by omega) (by decide)⟩ ⟨nI_pos' (by omega), nI_le (by omega) (by omega)⟩) rfl rfl (Nat.le_of_ble_eq_true rfl) ⟨Nat.le_of_ble_eq_true rfl, Nat.le_of_ble_eq_true rfl⟩ ⟨by show _ ≤ 100; omega, by show _ ≤ 1000; omega⟩ ?_
      intro v172 s172 q172
      obtain ⟨rfl, z172⟩ := q172
      obtain ⟨bc, cc⟩ := bC_var (x := nI (j114 + 1)) (z := nI j136) bc eB (fun p ms q => rep_no q)
      rw [← z172] at bc cc
      have bh := bh.c cc
      refine zw_iload dL_build_175 rfl ?_
      refine zw_icmpeq (tgt := 182) dL_build_177 (by decide) (fun c177 => ?_) (fun c177 => ?_)
      · refine zw_iinc dL_build_182 rfl (by decide) rfl ?_
        refine zw_goto (tgt := 95) dL_build_185 (by decide) ?_
        have e : (G ++ [nI (j114 + 1)]).length = G.length + 1 := by rw [List.length_append]; rfl
        refine zw_loc (lc' := [(0, .ref 1), (1, .ref 0), (2, .ref 30), (3, .int (nI P)), (4, .int (nI V)), (5, .int (nI G.length + 1))]) (zsub_cons rfl (zsub_cons rfl (zsub_cons rfl (zsub_cons rfl (zsub_cons rfl (zsub_cons rfl zsub_nil)))))) ?_
        rw [nI_1, ← e]
        exact ih s172 (G ++ [nI (j114 + 1)]) (B ++ [nI j136]) mid _ _ (by rw [e]; omega) bc bh (go.app (by omega) (by omega) (by omega)) (by rw [e]; omega) (by rw [e]; omega)
      · exact absurd rfl c177
