/-! the law -/
theorem zsplit19 (x : Int32) : x = 0 ∨ x = 1 ∨ x = 2 ∨ x = 3 ∨ x = 4 ∨ x = 5 ∨ x = 6 ∨ x = 7 ∨ x = 8 ∨ x = 9 ∨ x = 10 ∨ x = 11 ∨ x = 12 ∨ x = 13 ∨ x = 14 ∨ x = 15 ∨ x = 16 ∨ x = 17 ∨ x = 18 ∨ (x.toInt < 0 ∨ 18 < x.toInt) := by
  have h0 : x.toInt = 0 → x = 0 := fun h => Int32.toInt_inj.mp (h.trans rfl)
  have h1 : x.toInt = 1 → x = 1 := fun h => Int32.toInt_inj.mp (h.trans rfl)
  have h2 : x.toInt = 2 → x = 2 := fun h => Int32.toInt_inj.mp (h.trans rfl)
  have h3 : x.toInt = 3 → x = 3 := fun h => Int32.toInt_inj.mp (h.trans rfl)
  have h4 : x.toInt = 4 → x = 4 := fun h => Int32.toInt_inj.mp (h.trans rfl)
  have h5 : x.toInt = 5 → x = 5 := fun h => Int32.toInt_inj.mp (h.trans rfl)
  have h6 : x.toInt = 6 → x = 6 := fun h => Int32.toInt_inj.mp (h.trans rfl)
  have h7 : x.toInt = 7 → x = 7 := fun h => Int32.toInt_inj.mp (h.trans rfl)
  have h8 : x.toInt = 8 → x = 8 := fun h => Int32.toInt_inj.mp (h.trans rfl)
  have h9 : x.toInt = 9 → x = 9 := fun h => Int32.toInt_inj.mp (h.trans rfl)
  have h10 : x.toInt = 10 → x = 10 := fun h => Int32.toInt_inj.mp (h.trans rfl)
  have h11 : x.toInt = 11 → x = 11 := fun h => Int32.toInt_inj.mp (h.trans rfl)
  have h12 : x.toInt = 12 → x = 12 := fun h => Int32.toInt_inj.mp (h.trans rfl)
  have h13 : x.toInt = 13 → x = 13 := fun h => Int32.toInt_inj.mp (h.trans rfl)
  have h14 : x.toInt = 14 → x = 14 := fun h => Int32.toInt_inj.mp (h.trans rfl)
  have h15 : x.toInt = 15 → x = 15 := fun h => Int32.toInt_inj.mp (h.trans rfl)
  have h16 : x.toInt = 16 → x = 16 := fun h => Int32.toInt_inj.mp (h.trans rfl)
  have h17 : x.toInt = 17 → x = 17 := fun h => Int32.toInt_inj.mp (h.trans rfl)
  have h18 : x.toInt = 18 → x = 18 := fun h => Int32.toInt_inj.mp (h.trans rfl)
  by_cases a0 : x.toInt = 0
  · exact Or.inl (h0 a0)
  by_cases a1 : x.toInt = 1
  · exact Or.inr (Or.inl (h1 a1))
  by_cases a2 : x.toInt = 2
  · exact Or.inr (Or.inr (Or.inl (h2 a2)))
  by_cases a3 : x.toInt = 3
  · exact Or.inr (Or.inr (Or.inr (Or.inl (h3 a3))))
  by_cases a4 : x.toInt = 4
  · exact Or.inr (Or.inr (Or.inr (Or.inr (Or.inl (h4 a4)))))
  by_cases a5 : x.toInt = 5
  · exact Or.inr (Or.inr (Or.inr (Or.inr (Or.inr (Or.inl (h5 a5))))))
  by_cases a6 : x.toInt = 6
  · exact Or.inr (Or.inr (Or.inr (Or.inr (Or.inr (Or.inr (Or.inl (h6 a6)))))))
  by_cases a7 : x.toInt = 7
  · exact Or.inr (Or.inr (Or.inr (Or.inr (Or.inr (Or.inr (Or.inr (Or.inl (h7 a7))))))))
  by_cases a8 : x.toInt = 8
  · exact Or.inr (Or.inr (Or.inr (Or.inr (Or.inr (Or.inr (Or.inr (Or.inr (Or.inl (h8 a8)))))))))
  by_cases a9 : x.toInt = 9
  · exact Or.inr (Or.inr (Or.inr (Or.inr (Or.inr (Or.inr (Or.inr (Or.inr (Or.inr (Or.inl (h9 a9))))))))))
  by_cases a10 : x.toInt = 10
  · exact Or.inr (Or.inr (Or.inr (Or.inr (Or.inr (Or.inr (Or.inr (Or.inr (Or.inr (Or.inr (Or.inl (h10 a10)))))))))))
  by_cases a11 : x.toInt = 11
  · exact Or.inr (Or.inr (Or.inr (Or.inr (Or.inr (Or.inr (Or.inr (Or.inr (Or.inr (Or.inr (Or.inr (Or.inl (h11 a11))))))))))))
  by_cases a12 : x.toInt = 12
  · exact Or.inr (Or.inr (Or.inr (Or.inr (Or.inr (Or.inr (Or.inr (Or.inr (Or.inr (Or.inr (Or.inr (Or.inr (Or.inl (h12 a12)))))))))))))
  by_cases a13 : x.toInt = 13
  · exact Or.inr (Or.inr (Or.inr (Or.inr (Or.inr (Or.inr (Or.inr (Or.inr (Or.inr (Or.inr (Or.inr (Or.inr (Or.inr (Or.inl (h13 a13))))))))))))))
  by_cases a14 : x.toInt = 14
  · exact Or.inr (Or.inr (Or.inr (Or.inr (Or.inr (Or.inr (Or.inr (Or.inr (Or.inr (Or.inr (Or.inr (Or.inr (Or.inr (Or.inr (Or.inl (h14 a14)))))))))))))))
  by_cases a15 : x.toInt = 15
  · exact Or.inr (Or.inr (Or.inr (Or.inr (Or.inr (Or.inr (Or.inr (Or.inr (Or.inr (Or.inr (Or.inr (Or.inr (Or.inr (Or.inr (Or.inr (Or.inl (h15 a15))))))))))))))))
  by_cases a16 : x.toInt = 16
  · exact Or.inr (Or.inr (Or.inr (Or.inr (Or.inr (Or.inr (Or.inr (Or.inr (Or.inr (Or.inr (Or.inr (Or.inr (Or.inr (Or.inr (Or.inr (Or.inr (Or.inl (h16 a16)))))))))))))))))
  by_cases a17 : x.toInt = 17
  · exact Or.inr (Or.inr (Or.inr (Or.inr (Or.inr (Or.inr (Or.inr (Or.inr (Or.inr (Or.inr (Or.inr (Or.inr (Or.inr (Or.inr (Or.inr (Or.inr (Or.inr (Or.inl (h17 a17))))))))))))))))))
  by_cases a18 : x.toInt = 18
  · exact Or.inr (Or.inr (Or.inr (Or.inr (Or.inr (Or.inr (Or.inr (Or.inr (Or.inr (Or.inr (Or.inr (Or.inr (Or.inr (Or.inr (Or.inr (Or.inr (Or.inr (Or.inr (Or.inl (h18 a18)))))))))))))))))))
  exact Or.inr (Or.inr (Or.inr (Or.inr (Or.inr (Or.inr (Or.inr (Or.inr (Or.inr (Or.inr (Or.inr (Or.inr (Or.inr (Or.inr (Or.inr (Or.inr (Or.inr (Or.inr (Or.inr (by omega)))))))))))))))))))
theorem zw_anyI {l : Launch} {y : zM} {R : Room} {pc : Nat} {lc : List (Nat × Value)} {st : List Value} {σ : zS} {uc us : Nat} {Q : Option Value → zS → Prop} {x : Int32} (K : ∀ w : Int32, zAW l y R pc lc (.int w :: st) σ uc us Q) : zAW l y R pc lc (.int x :: st) σ uc us Q := K x
set_option maxHeartbeats 4000000 in
set_option maxRecDepth 100000 in
theorem law_tail {l : Launch} {lc : List (Nat × Value)} {σ : zS} {uc us : Nat} (k0 : zK σ 0 = 100) (l0 : zL σ 0 = 6) (h0 : zlk lc 0 = some (.ref 0)) (h4 : zlk lc 4 = some (.int 0)) (ho : zlo lc 4 = true) : zAW l zmL_law room_1 1421 lc [] σ uc us (fun v _ => v = some (.int 1)) := by
  refine zw_iinc dL_law_1421 h4 (by decide) ho ?_
  refine zw_goto (tgt := 23) dL_law_1424 (by decide) ?_
  refine zw_iload dL_law_23 rfl ?_
  refine zw_aload_n dL_law_25 (show zlk ((4, .int _) :: lc) 0 = some (.ref 0) from h0) ?_
  refine zw_alen (t := 0) dL_law_26 k0 (by decide) ?_
  rw [l0]
  refine zw_bipush (x := 6) dL_law_27 rfl ?_
  refine zw_isub dL_law_29 ?_
  refine zw_icmpgt (tgt := 1427) dL_law_30 (by decide) (fun _ => ?_) (fun c => absurd (by decide) c)
  refine zw_iconst (x := 1) dL_law_1427 rfl ?_
  exact zw_iret dL_law_1428 rfl rfl rfl
set_option maxHeartbeats 4000000 in
set_option maxRecDepth 100000 in
theorem law_case0 {l : Launch} (hfl : l.stackTraces = false) {xs : Nat → Int32} : zAW l zmL_law room_1 132 [(4, .int 0), (3, .ref 53), (2, .ref 30), (1, .ref 1), (0, .ref 0)] [] (hF 6 xs) 1000 100000 (fun v _ => v = some (.int 1)) := by
  refine zw_aload_n dL_law_132 rfl ?_
  refine zw_aload_n dL_law_133 rfl ?_
  refine zw_iload dL_law_134 rfl ?_
  refine zw_iconst (x := 1) dL_law_136 rfl ?_
  refine zw_iadd dL_law_137 ?_
  refine zw_iaload dL_law_138 (show zK _ 0 = 100 from rfl) (zin_of (show zL _ 0 = 6 from rfl) (by unfold vp_in; decide)) ?_
  refine zw_aload_n dL_law_139 rfl ?_
  refine zw_callSH (y' := zmL_addProcess) dL_law_140 zlL_78 (by decide +kernel) zmL_addProcess_ok (c1_L_addProcess hfl _) rfl rfl (Nat.le_of_ble_eq_true rfl) ⟨Nat.le_of_ble_eq_true rfl, Nat.le_of_ble_eq_true rfl⟩ ⟨Nat.le_of_ble_eq_true rfl, Nat.le_of_ble_eq_true rfl⟩ ?_
  intro v140 s140 q140
  rcases q140 with ⟨rfl, hl, hc⟩ | ⟨rfl, hl, hj, hc⟩
  · skip
    refine zw_istore dL_law_143 (by decide) rfl ?_
    refine zw_aload_n dL_law_145 rfl ?_
    refine zw_aload_n dL_law_146 rfl ?_
    refine zw_iload dL_law_147 rfl ?_
    refine zw_iconst (x := 1) dL_law_149 rfl ?_
    refine zw_iadd dL_law_150 ?_
    refine zw_iaload dL_law_151 (lk_0 hl) (zin_of (ll_0 hl) (by unfold vp_in; decide)) ?_
    refine zw_callV (y' := zmX6_addProcess) dL_law_152 zlL_83 zmX6_addProcess_ok (lk_30 hl) (by decide) rfl (c1_X6_addProcess hl _) rfl rfl (Nat.le_of_ble_eq_true rfl) ⟨Nat.le_of_ble_eq_true rfl, Nat.le_of_ble_eq_true rfl⟩ ⟨Nat.le_of_ble_eq_true rfl, Nat.le_of_ble_eq_true rfl⟩ ?_
    intro v152 s152 q152
    rcases q152 with ⟨⟨bq, rfl⟩, tt, rr, hm⟩ | ⟨rfl, tt, rr, hm⟩
    rotate_left
    · exact absurd (by rw [lx_0 hl] at hm; exact hm) hc
    have k30 : zK _ 30 = 6 := (congrFun rr.1 30).trans (lk_30 hl)
    have k00 : zK _ 0 = 100 := (congrFun rr.1 0).trans (lk_0 hl)
    have l00 : zL _ 0 = 6 := (congrFun rr.2.1 0).trans (ll_0 hl)
    have k53 : zK _ 53 = 104 := (congrFun rr.1 53).trans (lk_53 hl)
    have l53 : zL _ 53 = 1 := (congrFun rr.2.1 53).trans (ll_53 hl)
    refine zw_istore dL_law_155 (by decide) rfl ?_
    refine zw_aload_n dL_law_157 rfl ?_
    refine zw_callV (y' := zmX6_thrown) dL_law_158 zlL_84 zmX6_thrown_ok k30 (by decide) rfl (c1_X6_thrown (xs := xs) k30) rfl rfl (Nat.le_of_ble_eq_true rfl) ⟨Nat.le_of_ble_eq_true rfl, Nat.le_of_ble_eq_true rfl⟩ ⟨Nat.le_of_ble_eq_true rfl, Nat.le_of_ble_eq_true rfl⟩ ?_
    intro v158 s158 q158
    obtain ⟨rfl, rfl⟩ := q158
    rw [tt]
    refine zw_iload dL_law_161 rfl ?_
    refine zw_icmpeq (tgt := 168) dL_law_163 (by decide) (fun c163 => ?_) (fun c163 => absurd c163 (by decide))
    refine zw_iload dL_law_168 rfl ?_
    refine zw_ifne (tgt := 185) dL_law_170 (by decide) (fun c170 => ?_) (fun c170 => absurd c170 (by decide))
    refine zw_goto (tgt := 1421) dL_law_185 (by decide) ?_
    exact law_tail k00 l00 rfl rfl rfl
  · skip
    refine zw_istore dL_law_143 (by decide) rfl ?_
    refine zw_aload_n dL_law_145 rfl ?_
    refine zw_aload_n dL_law_146 rfl ?_
    refine zw_iload dL_law_147 rfl ?_
    refine zw_iconst (x := 1) dL_law_149 rfl ?_
    refine zw_iadd dL_law_150 ?_
    refine zw_iaload dL_law_151 (lk_0 hl) (zin_of (ll_0 hl) (by unfold vp_in; decide)) ?_
    refine zw_callV (y' := zmX6_addProcess) dL_law_152 zlL_83 zmX6_addProcess_ok (lk_30 hl) (by decide) rfl (c1_X6_addProcess hl _) rfl rfl (Nat.le_of_ble_eq_true rfl) ⟨Nat.le_of_ble_eq_true rfl, Nat.le_of_ble_eq_true rfl⟩ ⟨Nat.le_of_ble_eq_true rfl, Nat.le_of_ble_eq_true rfl⟩ ?_
    intro v152 s152 q152
    rcases q152 with ⟨⟨bq, rfl⟩, tt, rr, hm⟩ | ⟨rfl, tt, rr, hm⟩
    · exact absurd hc (by rw [lx_0 hl] at hm; exact hm)
    have k30 : zK _ 30 = 6 := (congrFun rr.1 30).trans (lk_30 hl)
    have k00 : zK _ 0 = 100 := (congrFun rr.1 0).trans (lk_0 hl)
    have l00 : zL _ 0 = 6 := (congrFun rr.2.1 0).trans (ll_0 hl)
    have k53 : zK _ 53 = 104 := (congrFun rr.1 53).trans (lk_53 hl)
    have l53 : zL _ 53 = 1 := (congrFun rr.2.1 53).trans (ll_53 hl)
    have j53 : zJ _ 53 0 = 0 := (congrFun (congrFun rr.2.2 53) 0).trans hj
    refine zw_istore dL_law_155 (by decide) rfl ?_
    refine zw_aload_n dL_law_157 rfl ?_
    refine zw_callV (y' := zmX6_thrown) dL_law_158 zlL_84 zmX6_thrown_ok k30 (by decide) rfl (c1_X6_thrown (xs := xs) k30) rfl rfl (Nat.le_of_ble_eq_true rfl) ⟨Nat.le_of_ble_eq_true rfl, Nat.le_of_ble_eq_true rfl⟩ ⟨Nat.le_of_ble_eq_true rfl, Nat.le_of_ble_eq_true rfl⟩ ?_
    intro v158 s158 q158
    obtain ⟨rfl, rfl⟩ := q158
    rw [tt]
    refine zw_iload dL_law_161 rfl ?_
    refine zw_icmpeq (tgt := 168) dL_law_163 (by decide) (fun c163 => ?_) (fun c163 => absurd c163 (by decide))
    refine zw_iload dL_law_168 rfl ?_
    refine zw_ifne (tgt := 185) dL_law_170 (by decide) (fun c170 => absurd c170 (by decide)) (fun c170 => ?_)
    refine zw_aload_n dL_law_173 rfl ?_
    refine zw_iconst (x := 0) dL_law_174 rfl ?_
    refine zw_laload (t := 4) dL_law_175 k53 rfl (by decide) (zin_of l53 (by unfold vp_in; decide)) ?_
    rw [show (0 : Int32).toNatClampNeg = 0 from rfl, j53]
    refine zw_iload dL_law_176 rfl ?_
    refine zw_i2l dL_law_178 ?_
    refine zw_lcmp dL_law_179 ?_
    refine zw_ifeq (tgt := 185) dL_law_180 (by decide) (fun c180 => ?_) (fun c180 => absurd c180 (by decide))
    refine zw_goto (tgt := 1421) dL_law_185 (by decide) ?_
    exact law_tail k00 l00 rfl rfl rfl
set_option maxHeartbeats 4000000 in
set_option maxRecDepth 100000 in
theorem law_case1 {l : Launch} (hfl : l.stackTraces = false) {xs : Nat → Int32} : zAW l zmL_law room_1 188 [(4, .int 0), (3, .ref 53), (2, .ref 30), (1, .ref 1), (0, .ref 0)] [] (hF 6 xs) 1000 100000 (fun v _ => v = some (.int 1)) := by
  refine zw_aload_n dL_law_188 rfl ?_
  refine zw_aload_n dL_law_189 rfl ?_
  refine zw_iload dL_law_190 rfl ?_
  refine zw_iconst (x := 1) dL_law_192 rfl ?_
  refine zw_iadd dL_law_193 ?_
  refine zw_iaload dL_law_194 (show zK _ 0 = 100 from rfl) (zin_of (show zL _ 0 = 6 from rfl) (by unfold vp_in; decide)) ?_
  refine zw_aload_n dL_law_195 rfl ?_
  refine zw_iload dL_law_196 rfl ?_
  refine zw_iconst (x := 2) dL_law_198 rfl ?_
  refine zw_iadd dL_law_199 ?_
  refine zw_iaload dL_law_200 (show zK _ 0 = 100 from rfl) (zin_of (show zL _ 0 = 6 from rfl) (by unfold vp_in; decide)) ?_
  refine zw_aload_n dL_law_201 rfl ?_
  refine zw_callSH (y' := zmL_addVariable) dL_law_202 zlL_87 (by decide +kernel) zmL_addVariable_ok (c1_L_addVariable hfl _ _) rfl rfl (Nat.le_of_ble_eq_true rfl) ⟨Nat.le_of_ble_eq_true rfl, Nat.le_of_ble_eq_true rfl⟩ ⟨Nat.le_of_ble_eq_true rfl, Nat.le_of_ble_eq_true rfl⟩ ?_
  intro v202 s202 q202
  rcases q202 with ⟨rfl, hl, hc⟩ | ⟨rfl, hl, hj, hc⟩
  · skip
    refine zw_istore dL_law_205 (by decide) rfl ?_
    refine zw_aload_n dL_law_207 rfl ?_
    refine zw_aload_n dL_law_208 rfl ?_
    refine zw_iload dL_law_209 rfl ?_
    refine zw_iconst (x := 1) dL_law_211 rfl ?_
    refine zw_iadd dL_law_212 ?_
    refine zw_iaload dL_law_213 (lk_0 hl) (zin_of (ll_0 hl) (by unfold vp_in; decide)) ?_
    refine zw_aload_n dL_law_214 rfl ?_
    refine zw_iload dL_law_215 rfl ?_
    refine zw_iconst (x := 2) dL_law_217 rfl ?_
    refine zw_iadd dL_law_218 ?_
    refine zw_iaload dL_law_219 (lk_0 hl) (zin_of (ll_0 hl) (by unfold vp_in; decide)) ?_
    refine zw_callV (y' := zmX6_addVariable) dL_law_220 zlL_90 zmX6_addVariable_ok (lk_30 hl) (by decide) rfl (c1_X6_addVariable hl _ _) rfl rfl (Nat.le_of_ble_eq_true rfl) ⟨Nat.le_of_ble_eq_true rfl, Nat.le_of_ble_eq_true rfl⟩ ⟨Nat.le_of_ble_eq_true rfl, Nat.le_of_ble_eq_true rfl⟩ ?_
    intro v220 s220 q220
    rcases q220 with ⟨⟨bq, rfl⟩, tt, rr, hm⟩ | ⟨rfl, tt, rr, hm⟩
    rotate_left
    · exact absurd (by rw [lx_0 hl] at hm; exact hm) hc
    have k30 : zK _ 30 = 6 := (congrFun rr.1 30).trans (lk_30 hl)
    have k00 : zK _ 0 = 100 := (congrFun rr.1 0).trans (lk_0 hl)
    have l00 : zL _ 0 = 6 := (congrFun rr.2.1 0).trans (ll_0 hl)
    have k53 : zK _ 53 = 104 := (congrFun rr.1 53).trans (lk_53 hl)
    have l53 : zL _ 53 = 1 := (congrFun rr.2.1 53).trans (ll_53 hl)
    refine zw_istore dL_law_223 (by decide) rfl ?_
    refine zw_aload_n dL_law_225 rfl ?_
    refine zw_callV (y' := zmX6_thrown) dL_law_226 zlL_84 zmX6_thrown_ok k30 (by decide) rfl (c1_X6_thrown (xs := xs) k30) rfl rfl (Nat.le_of_ble_eq_true rfl) ⟨Nat.le_of_ble_eq_true rfl, Nat.le_of_ble_eq_true rfl⟩ ⟨Nat.le_of_ble_eq_true rfl, Nat.le_of_ble_eq_true rfl⟩ ?_
    intro v226 s226 q226
    obtain ⟨rfl, rfl⟩ := q226
    rw [tt]
    refine zw_iload dL_law_229 rfl ?_
    refine zw_icmpeq (tgt := 236) dL_law_231 (by decide) (fun c231 => ?_) (fun c231 => absurd c231 (by decide))
    refine zw_iload dL_law_236 rfl ?_
    refine zw_ifne (tgt := 253) dL_law_238 (by decide) (fun c238 => ?_) (fun c238 => absurd c238 (by decide))
    refine zw_goto (tgt := 1421) dL_law_253 (by decide) ?_
    exact law_tail k00 l00 rfl rfl rfl
  · skip
    refine zw_istore dL_law_205 (by decide) rfl ?_
    refine zw_aload_n dL_law_207 rfl ?_
    refine zw_aload_n dL_law_208 rfl ?_
    refine zw_iload dL_law_209 rfl ?_
    refine zw_iconst (x := 1) dL_law_211 rfl ?_
    refine zw_iadd dL_law_212 ?_
    refine zw_iaload dL_law_213 (lk_0 hl) (zin_of (ll_0 hl) (by unfold vp_in; decide)) ?_
    refine zw_aload_n dL_law_214 rfl ?_
    refine zw_iload dL_law_215 rfl ?_
    refine zw_iconst (x := 2) dL_law_217 rfl ?_
    refine zw_iadd dL_law_218 ?_
    refine zw_iaload dL_law_219 (lk_0 hl) (zin_of (ll_0 hl) (by unfold vp_in; decide)) ?_
    refine zw_callV (y' := zmX6_addVariable) dL_law_220 zlL_90 zmX6_addVariable_ok (lk_30 hl) (by decide) rfl (c1_X6_addVariable hl _ _) rfl rfl (Nat.le_of_ble_eq_true rfl) ⟨Nat.le_of_ble_eq_true rfl, Nat.le_of_ble_eq_true rfl⟩ ⟨Nat.le_of_ble_eq_true rfl, Nat.le_of_ble_eq_true rfl⟩ ?_
    intro v220 s220 q220
    rcases q220 with ⟨⟨bq, rfl⟩, tt, rr, hm⟩ | ⟨rfl, tt, rr, hm⟩
    · exact absurd hc (by rw [lx_0 hl] at hm; exact hm)
    have k30 : zK _ 30 = 6 := (congrFun rr.1 30).trans (lk_30 hl)
    have k00 : zK _ 0 = 100 := (congrFun rr.1 0).trans (lk_0 hl)
    have l00 : zL _ 0 = 6 := (congrFun rr.2.1 0).trans (ll_0 hl)
    have k53 : zK _ 53 = 104 := (congrFun rr.1 53).trans (lk_53 hl)
    have l53 : zL _ 53 = 1 := (congrFun rr.2.1 53).trans (ll_53 hl)
    have j53 : zJ _ 53 0 = 0 := (congrFun (congrFun rr.2.2 53) 0).trans hj
    refine zw_istore dL_law_223 (by decide) rfl ?_
    refine zw_aload_n dL_law_225 rfl ?_
    refine zw_callV (y' := zmX6_thrown) dL_law_226 zlL_84 zmX6_thrown_ok k30 (by decide) rfl (c1_X6_thrown (xs := xs) k30) rfl rfl (Nat.le_of_ble_eq_true rfl) ⟨Nat.le_of_ble_eq_true rfl, Nat.le_of_ble_eq_true rfl⟩ ⟨Nat.le_of_ble_eq_true rfl, Nat.le_of_ble_eq_true rfl⟩ ?_
    intro v226 s226 q226
    obtain ⟨rfl, rfl⟩ := q226
    rw [tt]
    refine zw_iload dL_law_229 rfl ?_
    refine zw_icmpeq (tgt := 236) dL_law_231 (by decide) (fun c231 => ?_) (fun c231 => absurd c231 (by decide))
    refine zw_iload dL_law_236 rfl ?_
    refine zw_ifne (tgt := 253) dL_law_238 (by decide) (fun c238 => absurd c238 (by decide)) (fun c238 => ?_)
    refine zw_aload_n dL_law_241 rfl ?_
    refine zw_iconst (x := 0) dL_law_242 rfl ?_
    refine zw_laload (t := 4) dL_law_243 k53 rfl (by decide) (zin_of l53 (by unfold vp_in; decide)) ?_
    rw [show (0 : Int32).toNatClampNeg = 0 from rfl, j53]
    refine zw_iload dL_law_244 rfl ?_
    refine zw_i2l dL_law_246 ?_
    refine zw_lcmp dL_law_247 ?_
    refine zw_ifeq (tgt := 253) dL_law_248 (by decide) (fun c248 => ?_) (fun c248 => absurd c248 (by decide))
    refine zw_goto (tgt := 1421) dL_law_253 (by decide) ?_
    exact law_tail k00 l00 rfl rfl rfl
set_option maxHeartbeats 4000000 in
set_option maxRecDepth 100000 in
theorem law_case2 {l : Launch} (hfl : l.stackTraces = false) {xs : Nat → Int32} : zAW l zmL_law room_1 256 [(4, .int 0), (3, .ref 53), (2, .ref 30), (1, .ref 1), (0, .ref 0)] [] (hF 6 xs) 1000 100000 (fun v _ => v = some (.int 1)) := by
  refine zw_aload_n dL_law_256 rfl ?_
  refine zw_aload_n dL_law_257 rfl ?_
  refine zw_iload dL_law_258 rfl ?_
  refine zw_iconst (x := 1) dL_law_260 rfl ?_
  refine zw_iadd dL_law_261 ?_
  refine zw_iaload dL_law_262 (show zK _ 0 = 100 from rfl) (zin_of (show zL _ 0 = 6 from rfl) (by unfold vp_in; decide)) ?_
  refine zw_aload_n dL_law_263 rfl ?_
  refine zw_iload dL_law_264 rfl ?_
  refine zw_iconst (x := 2) dL_law_266 rfl ?_
  refine zw_iadd dL_law_267 ?_
  refine zw_iaload dL_law_268 (show zK _ 0 = 100 from rfl) (zin_of (show zL _ 0 = 6 from rfl) (by unfold vp_in; decide)) ?_
  refine zw_aload_n dL_law_269 rfl ?_
  refine zw_iload dL_law_270 rfl ?_
  refine zw_iconst (x := 3) dL_law_272 rfl ?_
  refine zw_iadd dL_law_273 ?_
  refine zw_iaload dL_law_274 (show zK _ 0 = 100 from rfl) (zin_of (show zL _ 0 = 6 from rfl) (by unfold vp_in; decide)) ?_
  refine zw_aload_n dL_law_275 rfl ?_
  refine zw_iload dL_law_276 rfl ?_
  refine zw_iconst (x := 4) dL_law_278 rfl ?_
  refine zw_iadd dL_law_279 ?_
  refine zw_iaload dL_law_280 (show zK _ 0 = 100 from rfl) (zin_of (show zL _ 0 = 6 from rfl) (by unfold vp_in; decide)) ?_
  refine zw_aload_n dL_law_281 rfl ?_
  refine zw_callSH (y' := zmL_addMove) dL_law_282 zlL_91 (by decide +kernel) zmL_addMove_ok (c1_L_addMove hfl _ _ _ _) rfl rfl (Nat.le_of_ble_eq_true rfl) ⟨Nat.le_of_ble_eq_true rfl, Nat.le_of_ble_eq_true rfl⟩ ⟨Nat.le_of_ble_eq_true rfl, Nat.le_of_ble_eq_true rfl⟩ ?_
  intro v282 s282 q282
  obtain ⟨rfl, hl⟩ := q282
  refine zw_istore dL_law_285 (by decide) rfl ?_
  refine zw_aload_n dL_law_287 rfl ?_
  refine zw_aload_n dL_law_288 rfl ?_
  refine zw_iload dL_law_289 rfl ?_
  refine zw_iconst (x := 1) dL_law_291 rfl ?_
  refine zw_iadd dL_law_292 ?_
  refine zw_iaload dL_law_293 (lk_0 hl) (zin_of (ll_0 hl) (by unfold vp_in; decide)) ?_
  refine zw_aload_n dL_law_294 rfl ?_
  refine zw_iload dL_law_295 rfl ?_
  refine zw_iconst (x := 2) dL_law_297 rfl ?_
  refine zw_iadd dL_law_298 ?_
  refine zw_iaload dL_law_299 (lk_0 hl) (zin_of (ll_0 hl) (by unfold vp_in; decide)) ?_
  refine zw_aload_n dL_law_300 rfl ?_
  refine zw_iload dL_law_301 rfl ?_
  refine zw_iconst (x := 3) dL_law_303 rfl ?_
  refine zw_iadd dL_law_304 ?_
  refine zw_iaload dL_law_305 (lk_0 hl) (zin_of (ll_0 hl) (by unfold vp_in; decide)) ?_
  refine zw_aload_n dL_law_306 rfl ?_
  refine zw_iload dL_law_307 rfl ?_
  refine zw_iconst (x := 4) dL_law_309 rfl ?_
  refine zw_iadd dL_law_310 ?_
  refine zw_iaload dL_law_311 (lk_0 hl) (zin_of (ll_0 hl) (by unfold vp_in; decide)) ?_
  refine zw_callV (y' := zmX6_addMove) dL_law_312 zlL_94 zmX6_addMove_ok (lk_30 hl) (by decide) rfl (c1_X6_addMove hl _ _ _ _) rfl rfl (Nat.le_of_ble_eq_true rfl) ⟨Nat.le_of_ble_eq_true rfl, Nat.le_of_ble_eq_true rfl⟩ ⟨Nat.le_of_ble_eq_true rfl, Nat.le_of_ble_eq_true rfl⟩ ?_
  intro v312 s312 q312
  obtain ⟨⟨bq, rfl⟩, tt, rr⟩ := q312
  have k30 : zK _ 30 = 6 := (congrFun rr.1 30).trans (lk_30 hl)
  have k00 : zK _ 0 = 100 := (congrFun rr.1 0).trans (lk_0 hl)
  have l00 : zL _ 0 = 6 := (congrFun rr.2.1 0).trans (ll_0 hl)
  have k53 : zK _ 53 = 104 := (congrFun rr.1 53).trans (lk_53 hl)
  have l53 : zL _ 53 = 1 := (congrFun rr.2.1 53).trans (ll_53 hl)
  refine zw_istore dL_law_315 (by decide) rfl ?_
  refine zw_aload_n dL_law_317 rfl ?_
  refine zw_callV (y' := zmX6_thrown) dL_law_318 zlL_84 zmX6_thrown_ok k30 (by decide) rfl (c1_X6_thrown (xs := xs) k30) rfl rfl (Nat.le_of_ble_eq_true rfl) ⟨Nat.le_of_ble_eq_true rfl, Nat.le_of_ble_eq_true rfl⟩ ⟨Nat.le_of_ble_eq_true rfl, Nat.le_of_ble_eq_true rfl⟩ ?_
  intro v318 s318 q318
  obtain ⟨rfl, rfl⟩ := q318
  rw [tt]
  refine zw_iload dL_law_321 rfl ?_
  refine zw_icmpeq (tgt := 328) dL_law_323 (by decide) (fun c323 => ?_) (fun c323 => absurd c323 (by decide))
  refine zw_iload dL_law_328 rfl ?_
  refine zw_ifne (tgt := 345) dL_law_330 (by decide) (fun c330 => ?_) (fun c330 => absurd c330 (by decide))
  refine zw_goto (tgt := 1421) dL_law_345 (by decide) ?_
  exact law_tail k00 l00 rfl rfl rfl
set_option maxHeartbeats 4000000 in
set_option maxRecDepth 100000 in
theorem law_case3 {l : Launch} (hfl : l.stackTraces = false) {xs : Nat → Int32} : zAW l zmL_law room_1 348 [(4, .int 0), (3, .ref 53), (2, .ref 30), (1, .ref 1), (0, .ref 0)] [] (hF 6 xs) 1000 100000 (fun v _ => v = some (.int 1)) := by
  refine zw_aload_n dL_law_348 rfl ?_
  refine zw_aload_n dL_law_349 rfl ?_
  refine zw_iload dL_law_350 rfl ?_
  refine zw_iconst (x := 1) dL_law_352 rfl ?_
  refine zw_iadd dL_law_353 ?_
  refine zw_iaload dL_law_354 (show zK _ 0 = 100 from rfl) (zin_of (show zL _ 0 = 6 from rfl) (by unfold vp_in; decide)) ?_
  refine zw_aload_n dL_law_355 rfl ?_
  refine zw_iload dL_law_356 rfl ?_
  refine zw_iconst (x := 2) dL_law_358 rfl ?_
  refine zw_iadd dL_law_359 ?_
  refine zw_iaload dL_law_360 (show zK _ 0 = 100 from rfl) (zin_of (show zL _ 0 = 6 from rfl) (by unfold vp_in; decide)) ?_
  refine zw_aload_n dL_law_361 rfl ?_
  refine zw_iload dL_law_362 rfl ?_
  refine zw_iconst (x := 3) dL_law_364 rfl ?_
  refine zw_iadd dL_law_365 ?_
  refine zw_iaload dL_law_366 (show zK _ 0 = 100 from rfl) (zin_of (show zL _ 0 = 6 from rfl) (by unfold vp_in; decide)) ?_
  refine zw_aload_n dL_law_367 rfl ?_
  refine zw_iload dL_law_368 rfl ?_
  refine zw_iconst (x := 4) dL_law_370 rfl ?_
  refine zw_iadd dL_law_371 ?_
  refine zw_iaload dL_law_372 (show zK _ 0 = 100 from rfl) (zin_of (show zL _ 0 = 6 from rfl) (by unfold vp_in; decide)) ?_
  refine zw_aload_n dL_law_373 rfl ?_
  refine zw_iload dL_law_374 rfl ?_
  refine zw_iconst (x := 5) dL_law_376 rfl ?_
  refine zw_iadd dL_law_377 ?_
  refine zw_iaload dL_law_378 (show zK _ 0 = 100 from rfl) (zin_of (show zL _ 0 = 6 from rfl) (by unfold vp_in; decide)) ?_
  refine zw_aload_n dL_law_379 rfl ?_
  refine zw_callSH (y' := zmL_guard) dL_law_380 zlL_95 (by decide +kernel) zmL_guard_ok (c1_L_guard hfl _ _ _ _ _) rfl rfl (Nat.le_of_ble_eq_true rfl) ⟨Nat.le_of_ble_eq_true rfl, Nat.le_of_ble_eq_true rfl⟩ ⟨Nat.le_of_ble_eq_true rfl, Nat.le_of_ble_eq_true rfl⟩ ?_
  intro v380 s380 q380
  obtain ⟨rfl, hl⟩ := q380
  refine zw_istore dL_law_383 (by decide) rfl ?_
  refine zw_aload_n dL_law_385 rfl ?_
  refine zw_aload_n dL_law_386 rfl ?_
  refine zw_iload dL_law_387 rfl ?_
  refine zw_iconst (x := 1) dL_law_389 rfl ?_
  refine zw_iadd dL_law_390 ?_
  refine zw_iaload dL_law_391 (lk_0 hl) (zin_of (ll_0 hl) (by unfold vp_in; decide)) ?_
  refine zw_aload_n dL_law_392 rfl ?_
  refine zw_iload dL_law_393 rfl ?_
  refine zw_iconst (x := 2) dL_law_395 rfl ?_
  refine zw_iadd dL_law_396 ?_
  refine zw_iaload dL_law_397 (lk_0 hl) (zin_of (ll_0 hl) (by unfold vp_in; decide)) ?_
  refine zw_aload_n dL_law_398 rfl ?_
  refine zw_iload dL_law_399 rfl ?_
  refine zw_iconst (x := 3) dL_law_401 rfl ?_
  refine zw_iadd dL_law_402 ?_
  refine zw_iaload dL_law_403 (lk_0 hl) (zin_of (ll_0 hl) (by unfold vp_in; decide)) ?_
  refine zw_aload_n dL_law_404 rfl ?_
  refine zw_iload dL_law_405 rfl ?_
  refine zw_iconst (x := 4) dL_law_407 rfl ?_
  refine zw_iadd dL_law_408 ?_
  refine zw_iaload dL_law_409 (lk_0 hl) (zin_of (ll_0 hl) (by unfold vp_in; decide)) ?_
  refine zw_aload_n dL_law_410 rfl ?_
  refine zw_iload dL_law_411 rfl ?_
  refine zw_iconst (x := 5) dL_law_413 rfl ?_
  refine zw_iadd dL_law_414 ?_
  refine zw_iaload dL_law_415 (lk_0 hl) (zin_of (ll_0 hl) (by unfold vp_in; decide)) ?_
  refine zw_callV (y' := zmX6_guard) dL_law_416 zlL_98 zmX6_guard_ok (lk_30 hl) (by decide) rfl (c1_X6_guard hl _ _ _ _ _) rfl rfl (Nat.le_of_ble_eq_true rfl) ⟨Nat.le_of_ble_eq_true rfl, Nat.le_of_ble_eq_true rfl⟩ ⟨Nat.le_of_ble_eq_true rfl, Nat.le_of_ble_eq_true rfl⟩ ?_
  intro v416 s416 q416
  obtain ⟨⟨bq, rfl⟩, tt, rr⟩ := q416
  have k30 : zK _ 30 = 6 := (congrFun rr.1 30).trans (lk_30 hl)
  have k00 : zK _ 0 = 100 := (congrFun rr.1 0).trans (lk_0 hl)
  have l00 : zL _ 0 = 6 := (congrFun rr.2.1 0).trans (ll_0 hl)
  have k53 : zK _ 53 = 104 := (congrFun rr.1 53).trans (lk_53 hl)
  have l53 : zL _ 53 = 1 := (congrFun rr.2.1 53).trans (ll_53 hl)
  refine zw_istore dL_law_419 (by decide) rfl ?_
  refine zw_aload_n dL_law_421 rfl ?_
  refine zw_callV (y' := zmX6_thrown) dL_law_422 zlL_84 zmX6_thrown_ok k30 (by decide) rfl (c1_X6_thrown (xs := xs) k30) rfl rfl (Nat.le_of_ble_eq_true rfl) ⟨Nat.le_of_ble_eq_true rfl, Nat.le_of_ble_eq_true rfl⟩ ⟨Nat.le_of_ble_eq_true rfl, Nat.le_of_ble_eq_true rfl⟩ ?_
  intro v422 s422 q422
  obtain ⟨rfl, rfl⟩ := q422
  rw [tt]
  refine zw_iload dL_law_425 rfl ?_
  refine zw_icmpeq (tgt := 432) dL_law_427 (by decide) (fun c427 => ?_) (fun c427 => absurd c427 (by decide))
  refine zw_iload dL_law_432 rfl ?_
  refine zw_ifne (tgt := 449) dL_law_434 (by decide) (fun c434 => ?_) (fun c434 => absurd c434 (by decide))
  refine zw_goto (tgt := 1421) dL_law_449 (by decide) ?_
  exact law_tail k00 l00 rfl rfl rfl
set_option maxHeartbeats 4000000 in
set_option maxRecDepth 100000 in
theorem law_case4 {l : Launch} (hfl : l.stackTraces = false) {xs : Nat → Int32} : zAW l zmL_law room_1 452 [(4, .int 0), (3, .ref 53), (2, .ref 30), (1, .ref 1), (0, .ref 0)] [] (hF 6 xs) 1000 100000 (fun v _ => v = some (.int 1)) := by
  refine zw_aload_n dL_law_452 rfl ?_
  refine zw_aload_n dL_law_453 rfl ?_
  refine zw_iload dL_law_454 rfl ?_
  refine zw_iconst (x := 1) dL_law_456 rfl ?_
  refine zw_iadd dL_law_457 ?_
  refine zw_iaload dL_law_458 (show zK _ 0 = 100 from rfl) (zin_of (show zL _ 0 = 6 from rfl) (by unfold vp_in; decide)) ?_
  refine zw_aload_n dL_law_459 rfl ?_
  refine zw_iload dL_law_460 rfl ?_
  refine zw_iconst (x := 2) dL_law_462 rfl ?_
  refine zw_iadd dL_law_463 ?_
  refine zw_iaload dL_law_464 (show zK _ 0 = 100 from rfl) (zin_of (show zL _ 0 = 6 from rfl) (by unfold vp_in; decide)) ?_
  refine zw_aload_n dL_law_465 rfl ?_
  refine zw_iload dL_law_466 rfl ?_
  refine zw_iconst (x := 3) dL_law_468 rfl ?_
  refine zw_iadd dL_law_469 ?_
  refine zw_iaload dL_law_470 (show zK _ 0 = 100 from rfl) (zin_of (show zL _ 0 = 6 from rfl) (by unfold vp_in; decide)) ?_
  refine zw_aload_n dL_law_471 rfl ?_
  refine zw_iload dL_law_472 rfl ?_
  refine zw_iconst (x := 4) dL_law_474 rfl ?_
  refine zw_iadd dL_law_475 ?_
  refine zw_iaload dL_law_476 (show zK _ 0 = 100 from rfl) (zin_of (show zL _ 0 = 6 from rfl) (by unfold vp_in; decide)) ?_
  refine zw_aload_n dL_law_477 rfl ?_
  refine zw_iload dL_law_478 rfl ?_
  refine zw_iconst (x := 5) dL_law_480 rfl ?_
  refine zw_iadd dL_law_481 ?_
  refine zw_iaload dL_law_482 (show zK _ 0 = 100 from rfl) (zin_of (show zL _ 0 = 6 from rfl) (by unfold vp_in; decide)) ?_
  refine zw_aload_n dL_law_483 rfl ?_
  refine zw_callSH (y' := zmL_deed) dL_law_484 zlL_99 (by decide +kernel) zmL_deed_ok (c1_L_deed hfl _ _ _ _ _) rfl rfl (Nat.le_of_ble_eq_true rfl) ⟨Nat.le_of_ble_eq_true rfl, Nat.le_of_ble_eq_true rfl⟩ ⟨Nat.le_of_ble_eq_true rfl, Nat.le_of_ble_eq_true rfl⟩ ?_
  intro v484 s484 q484
  obtain ⟨rfl, hl⟩ := q484
  refine zw_istore dL_law_487 (by decide) rfl ?_
  refine zw_aload_n dL_law_489 rfl ?_
  refine zw_aload_n dL_law_490 rfl ?_
  refine zw_iload dL_law_491 rfl ?_
  refine zw_iconst (x := 1) dL_law_493 rfl ?_
  refine zw_iadd dL_law_494 ?_
  refine zw_iaload dL_law_495 (lk_0 hl) (zin_of (ll_0 hl) (by unfold vp_in; decide)) ?_
  refine zw_aload_n dL_law_496 rfl ?_
  refine zw_iload dL_law_497 rfl ?_
  refine zw_iconst (x := 2) dL_law_499 rfl ?_
  refine zw_iadd dL_law_500 ?_
  refine zw_iaload dL_law_501 (lk_0 hl) (zin_of (ll_0 hl) (by unfold vp_in; decide)) ?_
  refine zw_aload_n dL_law_502 rfl ?_
  refine zw_iload dL_law_503 rfl ?_
  refine zw_iconst (x := 3) dL_law_505 rfl ?_
  refine zw_iadd dL_law_506 ?_
  refine zw_iaload dL_law_507 (lk_0 hl) (zin_of (ll_0 hl) (by unfold vp_in; decide)) ?_
  refine zw_aload_n dL_law_508 rfl ?_
  refine zw_iload dL_law_509 rfl ?_
  refine zw_iconst (x := 4) dL_law_511 rfl ?_
  refine zw_iadd dL_law_512 ?_
  refine zw_iaload dL_law_513 (lk_0 hl) (zin_of (ll_0 hl) (by unfold vp_in; decide)) ?_
  refine zw_aload_n dL_law_514 rfl ?_
  refine zw_iload dL_law_515 rfl ?_
  refine zw_iconst (x := 5) dL_law_517 rfl ?_
  refine zw_iadd dL_law_518 ?_
  refine zw_iaload dL_law_519 (lk_0 hl) (zin_of (ll_0 hl) (by unfold vp_in; decide)) ?_
  refine zw_callV (y' := zmX6_deed) dL_law_520 zlL_101 zmX6_deed_ok (lk_30 hl) (by decide) rfl (c1_X6_deed hl _ _ _ _ _) rfl rfl (Nat.le_of_ble_eq_true rfl) ⟨Nat.le_of_ble_eq_true rfl, Nat.le_of_ble_eq_true rfl⟩ ⟨Nat.le_of_ble_eq_true rfl, Nat.le_of_ble_eq_true rfl⟩ ?_
  intro v520 s520 q520
  obtain ⟨⟨bq, rfl⟩, tt, rr⟩ := q520
  have k30 : zK _ 30 = 6 := (congrFun rr.1 30).trans (lk_30 hl)
  have k00 : zK _ 0 = 100 := (congrFun rr.1 0).trans (lk_0 hl)
  have l00 : zL _ 0 = 6 := (congrFun rr.2.1 0).trans (ll_0 hl)
  have k53 : zK _ 53 = 104 := (congrFun rr.1 53).trans (lk_53 hl)
  have l53 : zL _ 53 = 1 := (congrFun rr.2.1 53).trans (ll_53 hl)
  refine zw_istore dL_law_523 (by decide) rfl ?_
  refine zw_aload_n dL_law_525 rfl ?_
  refine zw_callV (y' := zmX6_thrown) dL_law_526 zlL_84 zmX6_thrown_ok k30 (by decide) rfl (c1_X6_thrown (xs := xs) k30) rfl rfl (Nat.le_of_ble_eq_true rfl) ⟨Nat.le_of_ble_eq_true rfl, Nat.le_of_ble_eq_true rfl⟩ ⟨Nat.le_of_ble_eq_true rfl, Nat.le_of_ble_eq_true rfl⟩ ?_
  intro v526 s526 q526
  obtain ⟨rfl, rfl⟩ := q526
  rw [tt]
  refine zw_iload dL_law_529 rfl ?_
  refine zw_icmpeq (tgt := 536) dL_law_531 (by decide) (fun c531 => ?_) (fun c531 => absurd c531 (by decide))
  refine zw_iload dL_law_536 rfl ?_
  refine zw_ifne (tgt := 553) dL_law_538 (by decide) (fun c538 => ?_) (fun c538 => absurd c538 (by decide))
  refine zw_goto (tgt := 1421) dL_law_553 (by decide) ?_
  exact law_tail k00 l00 rfl rfl rfl
set_option maxHeartbeats 4000000 in
set_option maxRecDepth 100000 in
theorem law_case5 {l : Launch} (hfl : l.stackTraces = false) {xs : Nat → Int32} : zAW l zmL_law room_1 556 [(4, .int 0), (3, .ref 53), (2, .ref 30), (1, .ref 1), (0, .ref 0)] [] (hF 6 xs) 1000 100000 (fun v _ => v = some (.int 1)) := by
  refine zw_aload_n dL_law_556 rfl ?_
  refine zw_aload_n dL_law_557 rfl ?_
  refine zw_iload dL_law_558 rfl ?_
  refine zw_iconst (x := 1) dL_law_560 rfl ?_
  refine zw_iadd dL_law_561 ?_
  refine zw_iaload dL_law_562 (show zK _ 0 = 100 from rfl) (zin_of (show zL _ 0 = 6 from rfl) (by unfold vp_in; decide)) ?_
  refine zw_aload_n dL_law_563 rfl ?_
  refine zw_callSH (y' := zmL_count) dL_law_564 zlL_102 (by decide +kernel) zmL_count_ok (c1_L_count hfl _) rfl rfl (Nat.le_of_ble_eq_true rfl) ⟨Nat.le_of_ble_eq_true rfl, Nat.le_of_ble_eq_true rfl⟩ ⟨Nat.le_of_ble_eq_true rfl, Nat.le_of_ble_eq_true rfl⟩ ?_
  intro v564 s564 q564
  rcases q564 with ⟨rfl, hl, hc⟩ | ⟨rfl, hl, hj, hc⟩
  · skip
    refine zw_istore dL_law_567 (by decide) rfl ?_
    refine zw_aload_n dL_law_569 rfl ?_
    refine zw_aload_n dL_law_570 rfl ?_
    refine zw_iload dL_law_571 rfl ?_
    refine zw_iconst (x := 1) dL_law_573 rfl ?_
    refine zw_iadd dL_law_574 ?_
    refine zw_iaload dL_law_575 (lk_0 hl) (zin_of (ll_0 hl) (by unfold vp_in; decide)) ?_
    refine zw_callV (y' := zmX6_count) dL_law_576 zlL_104 zmX6_count_ok (lk_30 hl) (by decide) rfl (c1_X6_count hl _) rfl rfl (Nat.le_of_ble_eq_true rfl) ⟨Nat.le_of_ble_eq_true rfl, Nat.le_of_ble_eq_true rfl⟩ ⟨Nat.le_of_ble_eq_true rfl, Nat.le_of_ble_eq_true rfl⟩ ?_
    intro v576 s576 q576
    rcases q576 with ⟨⟨bq, rfl⟩, tt, rr, hm⟩ | ⟨rfl, tt, rr, hm⟩
    rotate_left
    · exact absurd (by rw [lx_0 hl] at hm; exact hm) hc
    have k30 : zK _ 30 = 6 := (congrFun rr.1 30).trans (lk_30 hl)
    have k00 : zK _ 0 = 100 := (congrFun rr.1 0).trans (lk_0 hl)
    have l00 : zL _ 0 = 6 := (congrFun rr.2.1 0).trans (ll_0 hl)
    have k53 : zK _ 53 = 104 := (congrFun rr.1 53).trans (lk_53 hl)
    have l53 : zL _ 53 = 1 := (congrFun rr.2.1 53).trans (ll_53 hl)
    refine zw_istore dL_law_579 (by decide) rfl ?_
    refine zw_aload_n dL_law_581 rfl ?_
    refine zw_callV (y' := zmX6_thrown) dL_law_582 zlL_84 zmX6_thrown_ok k30 (by decide) rfl (c1_X6_thrown (xs := xs) k30) rfl rfl (Nat.le_of_ble_eq_true rfl) ⟨Nat.le_of_ble_eq_true rfl, Nat.le_of_ble_eq_true rfl⟩ ⟨Nat.le_of_ble_eq_true rfl, Nat.le_of_ble_eq_true rfl⟩ ?_
    intro v582 s582 q582
    obtain ⟨rfl, rfl⟩ := q582
    rw [tt]
    refine zw_iload dL_law_585 rfl ?_
    refine zw_icmpeq (tgt := 592) dL_law_587 (by decide) (fun c587 => ?_) (fun c587 => absurd c587 (by decide))
    refine zw_iload dL_law_592 rfl ?_
    refine zw_ifne (tgt := 609) dL_law_594 (by decide) (fun c594 => ?_) (fun c594 => absurd c594 (by decide))
    refine zw_goto (tgt := 1421) dL_law_609 (by decide) ?_
    exact law_tail k00 l00 rfl rfl rfl
  · skip
    refine zw_istore dL_law_567 (by decide) rfl ?_
    refine zw_aload_n dL_law_569 rfl ?_
    refine zw_aload_n dL_law_570 rfl ?_
    refine zw_iload dL_law_571 rfl ?_
    refine zw_iconst (x := 1) dL_law_573 rfl ?_
    refine zw_iadd dL_law_574 ?_
    refine zw_iaload dL_law_575 (lk_0 hl) (zin_of (ll_0 hl) (by unfold vp_in; decide)) ?_
    refine zw_callV (y' := zmX6_count) dL_law_576 zlL_104 zmX6_count_ok (lk_30 hl) (by decide) rfl (c1_X6_count hl _) rfl rfl (Nat.le_of_ble_eq_true rfl) ⟨Nat.le_of_ble_eq_true rfl, Nat.le_of_ble_eq_true rfl⟩ ⟨Nat.le_of_ble_eq_true rfl, Nat.le_of_ble_eq_true rfl⟩ ?_
    intro v576 s576 q576
    rcases q576 with ⟨⟨bq, rfl⟩, tt, rr, hm⟩ | ⟨rfl, tt, rr, hm⟩
    · exact absurd hc (by rw [lx_0 hl] at hm; exact hm)
    have k30 : zK _ 30 = 6 := (congrFun rr.1 30).trans (lk_30 hl)
    have k00 : zK _ 0 = 100 := (congrFun rr.1 0).trans (lk_0 hl)
    have l00 : zL _ 0 = 6 := (congrFun rr.2.1 0).trans (ll_0 hl)
    have k53 : zK _ 53 = 104 := (congrFun rr.1 53).trans (lk_53 hl)
    have l53 : zL _ 53 = 1 := (congrFun rr.2.1 53).trans (ll_53 hl)
    have j53 : zJ _ 53 0 = 0 := (congrFun (congrFun rr.2.2 53) 0).trans hj
    refine zw_istore dL_law_579 (by decide) rfl ?_
    refine zw_aload_n dL_law_581 rfl ?_
    refine zw_callV (y' := zmX6_thrown) dL_law_582 zlL_84 zmX6_thrown_ok k30 (by decide) rfl (c1_X6_thrown (xs := xs) k30) rfl rfl (Nat.le_of_ble_eq_true rfl) ⟨Nat.le_of_ble_eq_true rfl, Nat.le_of_ble_eq_true rfl⟩ ⟨Nat.le_of_ble_eq_true rfl, Nat.le_of_ble_eq_true rfl⟩ ?_
    intro v582 s582 q582
    obtain ⟨rfl, rfl⟩ := q582
    rw [tt]
    refine zw_iload dL_law_585 rfl ?_
    refine zw_icmpeq (tgt := 592) dL_law_587 (by decide) (fun c587 => ?_) (fun c587 => absurd c587 (by decide))
    refine zw_iload dL_law_592 rfl ?_
    refine zw_ifne (tgt := 609) dL_law_594 (by decide) (fun c594 => absurd c594 (by decide)) (fun c594 => ?_)
    refine zw_aload_n dL_law_597 rfl ?_
    refine zw_iconst (x := 0) dL_law_598 rfl ?_
    refine zw_laload (t := 4) dL_law_599 k53 rfl (by decide) (zin_of l53 (by unfold vp_in; decide)) ?_
    rw [show (0 : Int32).toNatClampNeg = 0 from rfl, j53]
    refine zw_iload dL_law_600 rfl ?_
    refine zw_i2l dL_law_602 ?_
    refine zw_lcmp dL_law_603 ?_
    refine zw_ifeq (tgt := 609) dL_law_604 (by decide) (fun c604 => ?_) (fun c604 => absurd c604 (by decide))
    refine zw_goto (tgt := 1421) dL_law_609 (by decide) ?_
    exact law_tail k00 l00 rfl rfl rfl
set_option maxHeartbeats 4000000 in
set_option maxRecDepth 100000 in
theorem law_case6 {l : Launch} (hfl : l.stackTraces = false) {xs : Nat → Int32} : zAW l zmL_law room_1 612 [(4, .int 0), (3, .ref 53), (2, .ref 30), (1, .ref 1), (0, .ref 0)] [] (hF 6 xs) 1000 100000 (fun v _ => v = some (.int 1)) := by
  refine zw_aload_n dL_law_612 rfl ?_
  refine zw_aload_n dL_law_613 rfl ?_
  refine zw_callSH (y' := zmL_explore) dL_law_614 zlL_105 (by decide +kernel) zmL_explore_ok (c1_L_explore hfl) rfl rfl (Nat.le_of_ble_eq_true rfl) ⟨Nat.le_of_ble_eq_true rfl, Nat.le_of_ble_eq_true rfl⟩ ⟨Nat.le_of_ble_eq_true rfl, Nat.le_of_ble_eq_true rfl⟩ ?_
  intro v614 s614 q614
  obtain ⟨rfl, hl⟩ := q614
  refine zw_istore dL_law_617 (by decide) rfl ?_
  refine zw_aload_n dL_law_619 rfl ?_
  refine zw_callV (y' := zmX6_explore) dL_law_620 zlL_108 zmX6_explore_ok (lk_30 hl) (by decide) rfl (c1_X6_explore hl) rfl rfl (Nat.le_of_ble_eq_true rfl) ⟨Nat.le_of_ble_eq_true rfl, Nat.le_of_ble_eq_true rfl⟩ ⟨Nat.le_of_ble_eq_true rfl, Nat.le_of_ble_eq_true rfl⟩ ?_
  intro v620 s620 q620
  obtain ⟨⟨bq, rfl⟩, tt, rr⟩ := q620
  have k30 : zK _ 30 = 6 := (congrFun rr.1 30).trans (lk_30 hl)
  have k00 : zK _ 0 = 100 := (congrFun rr.1 0).trans (lk_0 hl)
  have l00 : zL _ 0 = 6 := (congrFun rr.2.1 0).trans (ll_0 hl)
  have k53 : zK _ 53 = 104 := (congrFun rr.1 53).trans (lk_53 hl)
  have l53 : zL _ 53 = 1 := (congrFun rr.2.1 53).trans (ll_53 hl)
  refine zw_istore dL_law_623 (by decide) rfl ?_
  refine zw_aload_n dL_law_625 rfl ?_
  refine zw_callV (y' := zmX6_thrown) dL_law_626 zlL_84 zmX6_thrown_ok k30 (by decide) rfl (c1_X6_thrown (xs := xs) k30) rfl rfl (Nat.le_of_ble_eq_true rfl) ⟨Nat.le_of_ble_eq_true rfl, Nat.le_of_ble_eq_true rfl⟩ ⟨Nat.le_of_ble_eq_true rfl, Nat.le_of_ble_eq_true rfl⟩ ?_
  intro v626 s626 q626
  obtain ⟨rfl, rfl⟩ := q626
  rw [tt]
  refine zw_iload dL_law_629 rfl ?_
  refine zw_icmpeq (tgt := 636) dL_law_631 (by decide) (fun c631 => ?_) (fun c631 => absurd c631 (by decide))
  refine zw_iload dL_law_636 rfl ?_
  refine zw_ifne (tgt := 653) dL_law_638 (by decide) (fun c638 => ?_) (fun c638 => absurd c638 (by decide))
  refine zw_goto (tgt := 1421) dL_law_653 (by decide) ?_
  exact law_tail k00 l00 rfl rfl rfl
set_option maxHeartbeats 4000000 in
set_option maxRecDepth 100000 in
theorem law_case7 {l : Launch} (hfl : l.stackTraces = false) {xs : Nat → Int32} : zAW l zmL_law room_1 656 [(4, .int 0), (3, .ref 53), (2, .ref 30), (1, .ref 1), (0, .ref 0)] [] (hF 6 xs) 1000 100000 (fun v _ => v = some (.int 1)) := by
  refine zw_aload_n dL_law_656 rfl ?_
  refine zw_aload_n dL_law_657 rfl ?_
  refine zw_iload dL_law_658 rfl ?_
  refine zw_iconst (x := 1) dL_law_660 rfl ?_
  refine zw_iadd dL_law_661 ?_
  refine zw_iaload dL_law_662 (show zK _ 0 = 100 from rfl) (zin_of (show zL _ 0 = 6 from rfl) (by unfold vp_in; decide)) ?_
  refine zw_aload_n dL_law_663 rfl ?_
  refine zw_iload dL_law_664 rfl ?_
  refine zw_iconst (x := 2) dL_law_666 rfl ?_
  refine zw_iadd dL_law_667 ?_
  refine zw_iaload dL_law_668 (show zK _ 0 = 100 from rfl) (zin_of (show zL _ 0 = 6 from rfl) (by unfold vp_in; decide)) ?_
  refine zw_aload_n dL_law_669 rfl ?_
  refine zw_callSH (y' := zmL_state) dL_law_670 zlL_109 (by decide +kernel) zmL_state_ok (c1_L_state hfl _ _) rfl rfl (Nat.le_of_ble_eq_true rfl) ⟨Nat.le_of_ble_eq_true rfl, Nat.le_of_ble_eq_true rfl⟩ ⟨Nat.le_of_ble_eq_true rfl, Nat.le_of_ble_eq_true rfl⟩ ?_
  intro v670 s670 q670
  obtain ⟨rfl, hl⟩ := q670
  refine zw_istore dL_law_673 (by decide) rfl ?_
  refine zw_aload_n dL_law_675 rfl ?_
  refine zw_aload_n dL_law_676 rfl ?_
  refine zw_iload dL_law_677 rfl ?_
  refine zw_iconst (x := 1) dL_law_679 rfl ?_
  refine zw_iadd dL_law_680 ?_
  refine zw_iaload dL_law_681 (lk_0 hl) (zin_of (ll_0 hl) (by unfold vp_in; decide)) ?_
  refine zw_aload_n dL_law_682 rfl ?_
  refine zw_iload dL_law_683 rfl ?_
  refine zw_iconst (x := 2) dL_law_685 rfl ?_
  refine zw_iadd dL_law_686 ?_
  refine zw_iaload dL_law_687 (lk_0 hl) (zin_of (ll_0 hl) (by unfold vp_in; decide)) ?_
  refine zw_callV (y' := zmX6_state) dL_law_688 zlL_111 zmX6_state_ok (lk_30 hl) (by decide) rfl (c1_X6_state hl _ _) rfl rfl (Nat.le_of_ble_eq_true rfl) ⟨Nat.le_of_ble_eq_true rfl, Nat.le_of_ble_eq_true rfl⟩ ⟨Nat.le_of_ble_eq_true rfl, Nat.le_of_ble_eq_true rfl⟩ ?_
  intro v688 s688 q688
  obtain ⟨⟨bq, rfl⟩, tt, rr⟩ := q688
  have k30 : zK _ 30 = 6 := (congrFun rr.1 30).trans (lk_30 hl)
  have k00 : zK _ 0 = 100 := (congrFun rr.1 0).trans (lk_0 hl)
  have l00 : zL _ 0 = 6 := (congrFun rr.2.1 0).trans (ll_0 hl)
  have k53 : zK _ 53 = 104 := (congrFun rr.1 53).trans (lk_53 hl)
  have l53 : zL _ 53 = 1 := (congrFun rr.2.1 53).trans (ll_53 hl)
  refine zw_istore dL_law_691 (by decide) rfl ?_
  refine zw_aload_n dL_law_693 rfl ?_
  refine zw_callV (y' := zmX6_thrown) dL_law_694 zlL_84 zmX6_thrown_ok k30 (by decide) rfl (c1_X6_thrown (xs := xs) k30) rfl rfl (Nat.le_of_ble_eq_true rfl) ⟨Nat.le_of_ble_eq_true rfl, Nat.le_of_ble_eq_true rfl⟩ ⟨Nat.le_of_ble_eq_true rfl, Nat.le_of_ble_eq_true rfl⟩ ?_
  intro v694 s694 q694
  obtain ⟨rfl, rfl⟩ := q694
  rw [tt]
  refine zw_iload dL_law_697 rfl ?_
  refine zw_icmpeq (tgt := 704) dL_law_699 (by decide) (fun c699 => ?_) (fun c699 => absurd c699 (by decide))
  refine zw_iload dL_law_704 rfl ?_
  refine zw_ifne (tgt := 721) dL_law_706 (by decide) (fun c706 => ?_) (fun c706 => absurd c706 (by decide))
  refine zw_goto (tgt := 1421) dL_law_721 (by decide) ?_
  exact law_tail k00 l00 rfl rfl rfl
set_option maxHeartbeats 4000000 in
set_option maxRecDepth 100000 in
theorem law_case8 {l : Launch} (hfl : l.stackTraces = false) {xs : Nat → Int32} : zAW l zmL_law room_1 724 [(4, .int 0), (3, .ref 53), (2, .ref 30), (1, .ref 1), (0, .ref 0)] [] (hF 6 xs) 1000 100000 (fun v _ => v = some (.int 1)) := by
  refine zw_aload_n dL_law_724 rfl ?_
  refine zw_aload_n dL_law_725 rfl ?_
  refine zw_iload dL_law_726 rfl ?_
  refine zw_iconst (x := 1) dL_law_728 rfl ?_
  refine zw_iadd dL_law_729 ?_
  refine zw_iaload dL_law_730 (show zK _ 0 = 100 from rfl) (zin_of (show zL _ 0 = 6 from rfl) (by unfold vp_in; decide)) ?_
  refine zw_aload_n dL_law_731 rfl ?_
  refine zw_iload dL_law_732 rfl ?_
  refine zw_iconst (x := 2) dL_law_734 rfl ?_
  refine zw_iadd dL_law_735 ?_
  refine zw_iaload dL_law_736 (show zK _ 0 = 100 from rfl) (zin_of (show zL _ 0 = 6 from rfl) (by unfold vp_in; decide)) ?_
  refine zw_aload_n dL_law_737 rfl ?_
  refine zw_iload dL_law_738 rfl ?_
  refine zw_iconst (x := 3) dL_law_740 rfl ?_
  refine zw_iadd dL_law_741 ?_
  refine zw_iaload dL_law_742 (show zK _ 0 = 100 from rfl) (zin_of (show zL _ 0 = 6 from rfl) (by unfold vp_in; decide)) ?_
  refine zw_aload_n dL_law_743 rfl ?_
  refine zw_callSH (y' := zmL_step) dL_law_744 zlL_112 (by decide +kernel) zmL_step_ok (c1_L_step hfl _ _ _) rfl rfl (Nat.le_of_ble_eq_true rfl) ⟨Nat.le_of_ble_eq_true rfl, Nat.le_of_ble_eq_true rfl⟩ ⟨Nat.le_of_ble_eq_true rfl, Nat.le_of_ble_eq_true rfl⟩ ?_
  intro v744 s744 q744
  obtain ⟨rfl, hl⟩ := q744
  refine zw_istore dL_law_747 (by decide) rfl ?_
  refine zw_aload_n dL_law_749 rfl ?_
  refine zw_aload_n dL_law_750 rfl ?_
  refine zw_iload dL_law_751 rfl ?_
  refine zw_iconst (x := 1) dL_law_753 rfl ?_
  refine zw_iadd dL_law_754 ?_
  refine zw_iaload dL_law_755 (lk_0 hl) (zin_of (ll_0 hl) (by unfold vp_in; decide)) ?_
  refine zw_aload_n dL_law_756 rfl ?_
  refine zw_iload dL_law_757 rfl ?_
  refine zw_iconst (x := 2) dL_law_759 rfl ?_
  refine zw_iadd dL_law_760 ?_
  refine zw_iaload dL_law_761 (lk_0 hl) (zin_of (ll_0 hl) (by unfold vp_in; decide)) ?_
  refine zw_aload_n dL_law_762 rfl ?_
  refine zw_iload dL_law_763 rfl ?_
  refine zw_iconst (x := 3) dL_law_765 rfl ?_
  refine zw_iadd dL_law_766 ?_
  refine zw_iaload dL_law_767 (lk_0 hl) (zin_of (ll_0 hl) (by unfold vp_in; decide)) ?_
  refine zw_callV (y' := zmX6_step) dL_law_768 zlL_115 zmX6_step_ok (lk_30 hl) (by decide) rfl (c1_X6_step hl _ _ _) rfl rfl (Nat.le_of_ble_eq_true rfl) ⟨Nat.le_of_ble_eq_true rfl, Nat.le_of_ble_eq_true rfl⟩ ⟨Nat.le_of_ble_eq_true rfl, Nat.le_of_ble_eq_true rfl⟩ ?_
  intro v768 s768 q768
  obtain ⟨⟨bq, rfl⟩, tt, rr⟩ := q768
  have k30 : zK _ 30 = 6 := (congrFun rr.1 30).trans (lk_30 hl)
  have k00 : zK _ 0 = 100 := (congrFun rr.1 0).trans (lk_0 hl)
  have l00 : zL _ 0 = 6 := (congrFun rr.2.1 0).trans (ll_0 hl)
  have k53 : zK _ 53 = 104 := (congrFun rr.1 53).trans (lk_53 hl)
  have l53 : zL _ 53 = 1 := (congrFun rr.2.1 53).trans (ll_53 hl)
  refine zw_istore dL_law_771 (by decide) rfl ?_
  refine zw_aload_n dL_law_773 rfl ?_
  refine zw_callV (y' := zmX6_thrown) dL_law_774 zlL_84 zmX6_thrown_ok k30 (by decide) rfl (c1_X6_thrown (xs := xs) k30) rfl rfl (Nat.le_of_ble_eq_true rfl) ⟨Nat.le_of_ble_eq_true rfl, Nat.le_of_ble_eq_true rfl⟩ ⟨Nat.le_of_ble_eq_true rfl, Nat.le_of_ble_eq_true rfl⟩ ?_
  intro v774 s774 q774
  obtain ⟨rfl, rfl⟩ := q774
  rw [tt]
  refine zw_iload dL_law_777 rfl ?_
  refine zw_icmpeq (tgt := 784) dL_law_779 (by decide) (fun c779 => ?_) (fun c779 => absurd c779 (by decide))
  refine zw_iload dL_law_784 rfl ?_
  refine zw_ifne (tgt := 801) dL_law_786 (by decide) (fun c786 => ?_) (fun c786 => absurd c786 (by decide))
  refine zw_goto (tgt := 1421) dL_law_801 (by decide) ?_
  exact law_tail k00 l00 rfl rfl rfl
set_option maxHeartbeats 4000000 in
set_option maxRecDepth 100000 in
theorem law_case9 {l : Launch} (hfl : l.stackTraces = false) {xs : Nat → Int32} : zAW l zmL_law room_1 804 [(4, .int 0), (3, .ref 53), (2, .ref 30), (1, .ref 1), (0, .ref 0)] [] (hF 6 xs) 1000 100000 (fun v _ => v = some (.int 1)) := by
  refine zw_aload_n dL_law_804 rfl ?_
  refine zw_aload_n dL_law_805 rfl ?_
  refine zw_iload dL_law_806 rfl ?_
  refine zw_iconst (x := 1) dL_law_808 rfl ?_
  refine zw_iadd dL_law_809 ?_
  refine zw_iaload dL_law_810 (show zK _ 0 = 100 from rfl) (zin_of (show zL _ 0 = 6 from rfl) (by unfold vp_in; decide)) ?_
  refine zw_aload_n dL_law_811 rfl ?_
  refine zw_iload dL_law_812 rfl ?_
  refine zw_iconst (x := 2) dL_law_814 rfl ?_
  refine zw_iadd dL_law_815 ?_
  refine zw_iaload dL_law_816 (show zK _ 0 = 100 from rfl) (zin_of (show zL _ 0 = 6 from rfl) (by unfold vp_in; decide)) ?_
  refine zw_aload_n dL_law_817 rfl ?_
  refine zw_iload dL_law_818 rfl ?_
  refine zw_iconst (x := 3) dL_law_820 rfl ?_
  refine zw_iadd dL_law_821 ?_
  refine zw_iaload dL_law_822 (show zK _ 0 = 100 from rfl) (zin_of (show zL _ 0 = 6 from rfl) (by unfold vp_in; decide)) ?_
  refine zw_aload_n dL_law_823 rfl ?_
  refine zw_callSH (y' := zmL_addFact) dL_law_824 zlL_116 (by decide +kernel) zmL_addFact_ok (c1_L_addFact hfl _ _ _) rfl rfl (Nat.le_of_ble_eq_true rfl) ⟨Nat.le_of_ble_eq_true rfl, Nat.le_of_ble_eq_true rfl⟩ ⟨Nat.le_of_ble_eq_true rfl, Nat.le_of_ble_eq_true rfl⟩ ?_
  intro v824 s824 q824
  obtain ⟨rfl, hl⟩ := q824
  refine zw_istore dL_law_827 (by decide) rfl ?_
  refine zw_aload_n dL_law_829 rfl ?_
  refine zw_aload_n dL_law_830 rfl ?_
  refine zw_iload dL_law_831 rfl ?_
  refine zw_iconst (x := 1) dL_law_833 rfl ?_
  refine zw_iadd dL_law_834 ?_
  refine zw_iaload dL_law_835 (lk_0 hl) (zin_of (ll_0 hl) (by unfold vp_in; decide)) ?_
  refine zw_aload_n dL_law_836 rfl ?_
  refine zw_iload dL_law_837 rfl ?_
  refine zw_iconst (x := 2) dL_law_839 rfl ?_
  refine zw_iadd dL_law_840 ?_
  refine zw_iaload dL_law_841 (lk_0 hl) (zin_of (ll_0 hl) (by unfold vp_in; decide)) ?_
  refine zw_aload_n dL_law_842 rfl ?_
  refine zw_iload dL_law_843 rfl ?_
  refine zw_iconst (x := 3) dL_law_845 rfl ?_
  refine zw_iadd dL_law_846 ?_
  refine zw_iaload dL_law_847 (lk_0 hl) (zin_of (ll_0 hl) (by unfold vp_in; decide)) ?_
  refine zw_callV (y' := zmX6_addFact) dL_law_848 zlL_118 zmX6_addFact_ok (lk_30 hl) (by decide) rfl (c1_X6_addFact hl _ _ _) rfl rfl (Nat.le_of_ble_eq_true rfl) ⟨Nat.le_of_ble_eq_true rfl, Nat.le_of_ble_eq_true rfl⟩ ⟨Nat.le_of_ble_eq_true rfl, Nat.le_of_ble_eq_true rfl⟩ ?_
  intro v848 s848 q848
  obtain ⟨⟨bq, rfl⟩, tt, rr⟩ := q848
  have k30 : zK _ 30 = 6 := (congrFun rr.1 30).trans (lk_30 hl)
  have k00 : zK _ 0 = 100 := (congrFun rr.1 0).trans (lk_0 hl)
  have l00 : zL _ 0 = 6 := (congrFun rr.2.1 0).trans (ll_0 hl)
  have k53 : zK _ 53 = 104 := (congrFun rr.1 53).trans (lk_53 hl)
  have l53 : zL _ 53 = 1 := (congrFun rr.2.1 53).trans (ll_53 hl)
  refine zw_istore dL_law_851 (by decide) rfl ?_
  refine zw_aload_n dL_law_853 rfl ?_
  refine zw_callV (y' := zmX6_thrown) dL_law_854 zlL_84 zmX6_thrown_ok k30 (by decide) rfl (c1_X6_thrown (xs := xs) k30) rfl rfl (Nat.le_of_ble_eq_true rfl) ⟨Nat.le_of_ble_eq_true rfl, Nat.le_of_ble_eq_true rfl⟩ ⟨Nat.le_of_ble_eq_true rfl, Nat.le_of_ble_eq_true rfl⟩ ?_
  intro v854 s854 q854
  obtain ⟨rfl, rfl⟩ := q854
  rw [tt]
  refine zw_iload dL_law_857 rfl ?_
  refine zw_icmpeq (tgt := 864) dL_law_859 (by decide) (fun c859 => ?_) (fun c859 => absurd c859 (by decide))
  refine zw_iload dL_law_864 rfl ?_
  refine zw_ifne (tgt := 881) dL_law_866 (by decide) (fun c866 => ?_) (fun c866 => absurd c866 (by decide))
  refine zw_goto (tgt := 1421) dL_law_881 (by decide) ?_
  exact law_tail k00 l00 rfl rfl rfl
set_option maxHeartbeats 4000000 in
set_option maxRecDepth 100000 in
theorem law_case10 {l : Launch} (hfl : l.stackTraces = false) {xs : Nat → Int32} : zAW l zmL_law room_1 884 [(4, .int 0), (3, .ref 53), (2, .ref 30), (1, .ref 1), (0, .ref 0)] [] (hF 6 xs) 1000 100000 (fun v _ => v = some (.int 1)) := by
  refine zw_aload_n dL_law_884 rfl ?_
  refine zw_aload_n dL_law_885 rfl ?_
  refine zw_iload dL_law_886 rfl ?_
  refine zw_iconst (x := 1) dL_law_888 rfl ?_
  refine zw_iadd dL_law_889 ?_
  refine zw_iaload dL_law_890 (show zK _ 0 = 100 from rfl) (zin_of (show zL _ 0 = 6 from rfl) (by unfold vp_in; decide)) ?_
  refine zw_aload_n dL_law_891 rfl ?_
  refine zw_iload dL_law_892 rfl ?_
  refine zw_iconst (x := 2) dL_law_894 rfl ?_
  refine zw_iadd dL_law_895 ?_
  refine zw_iaload dL_law_896 (show zK _ 0 = 100 from rfl) (zin_of (show zL _ 0 = 6 from rfl) (by unfold vp_in; decide)) ?_
  refine zw_aload_n dL_law_897 rfl ?_
  refine zw_callSH (y' := zmL_holds) dL_law_898 zlL_119 (by decide +kernel) zmL_holds_ok (c1_L_holds hfl _ _) rfl rfl (Nat.le_of_ble_eq_true rfl) ⟨Nat.le_of_ble_eq_true rfl, Nat.le_of_ble_eq_true rfl⟩ ⟨Nat.le_of_ble_eq_true rfl, Nat.le_of_ble_eq_true rfl⟩ ?_
  intro v898 s898 q898
  obtain ⟨rfl, hl⟩ := q898
  refine zw_istore dL_law_901 (by decide) rfl ?_
  refine zw_aload_n dL_law_903 rfl ?_
  refine zw_aload_n dL_law_904 rfl ?_
  refine zw_iload dL_law_905 rfl ?_
  refine zw_iconst (x := 1) dL_law_907 rfl ?_
  refine zw_iadd dL_law_908 ?_
  refine zw_iaload dL_law_909 (lk_0 hl) (zin_of (ll_0 hl) (by unfold vp_in; decide)) ?_
  refine zw_aload_n dL_law_910 rfl ?_
  refine zw_iload dL_law_911 rfl ?_
  refine zw_iconst (x := 2) dL_law_913 rfl ?_
  refine zw_iadd dL_law_914 ?_
  refine zw_iaload dL_law_915 (lk_0 hl) (zin_of (ll_0 hl) (by unfold vp_in; decide)) ?_
  refine zw_callV (y' := zmX6_holds) dL_law_916 zlL_121 zmX6_holds_ok (lk_30 hl) (by decide) rfl (c1_X6_holds hl _ _) rfl rfl (Nat.le_of_ble_eq_true rfl) ⟨Nat.le_of_ble_eq_true rfl, Nat.le_of_ble_eq_true rfl⟩ ⟨Nat.le_of_ble_eq_true rfl, Nat.le_of_ble_eq_true rfl⟩ ?_
  intro v916 s916 q916
  obtain ⟨⟨bq, rfl⟩, tt, rr⟩ := q916
  have k30 : zK _ 30 = 6 := (congrFun rr.1 30).trans (lk_30 hl)
  have k00 : zK _ 0 = 100 := (congrFun rr.1 0).trans (lk_0 hl)
  have l00 : zL _ 0 = 6 := (congrFun rr.2.1 0).trans (ll_0 hl)
  have k53 : zK _ 53 = 104 := (congrFun rr.1 53).trans (lk_53 hl)
  have l53 : zL _ 53 = 1 := (congrFun rr.2.1 53).trans (ll_53 hl)
  refine zw_istore dL_law_919 (by decide) rfl ?_
  refine zw_aload_n dL_law_921 rfl ?_
  refine zw_callV (y' := zmX6_thrown) dL_law_922 zlL_84 zmX6_thrown_ok k30 (by decide) rfl (c1_X6_thrown (xs := xs) k30) rfl rfl (Nat.le_of_ble_eq_true rfl) ⟨Nat.le_of_ble_eq_true rfl, Nat.le_of_ble_eq_true rfl⟩ ⟨Nat.le_of_ble_eq_true rfl, Nat.le_of_ble_eq_true rfl⟩ ?_
  intro v922 s922 q922
  obtain ⟨rfl, rfl⟩ := q922
  rw [tt]
  refine zw_iload dL_law_925 rfl ?_
  refine zw_icmpeq (tgt := 932) dL_law_927 (by decide) (fun c927 => ?_) (fun c927 => absurd c927 (by decide))
  refine zw_iload dL_law_932 rfl ?_
  refine zw_ifne (tgt := 956) dL_law_934 (by decide) (fun c934 => ?_) (fun c934 => absurd c934 (by decide))
  refine zw_goto (tgt := 1421) dL_law_956 (by decide) ?_
  exact law_tail k00 l00 rfl rfl rfl
set_option maxHeartbeats 4000000 in
set_option maxRecDepth 100000 in
theorem law_case11 {l : Launch} (hfl : l.stackTraces = false) {xs : Nat → Int32} : zAW l zmL_law room_1 959 [(4, .int 0), (3, .ref 53), (2, .ref 30), (1, .ref 1), (0, .ref 0)] [] (hF 6 xs) 1000 100000 (fun v _ => v = some (.int 1)) := by
  refine zw_aload_n dL_law_959 rfl ?_
  refine zw_aload_n dL_law_960 rfl ?_
  refine zw_iload dL_law_961 rfl ?_
  refine zw_iconst (x := 1) dL_law_963 rfl ?_
  refine zw_iadd dL_law_964 ?_
  refine zw_iaload dL_law_965 (show zK _ 0 = 100 from rfl) (zin_of (show zL _ 0 = 6 from rfl) (by unfold vp_in; decide)) ?_
  refine zw_aload_n dL_law_966 rfl ?_
  refine zw_iload dL_law_967 rfl ?_
  refine zw_iconst (x := 2) dL_law_969 rfl ?_
  refine zw_iadd dL_law_970 ?_
  refine zw_iaload dL_law_971 (show zK _ 0 = 100 from rfl) (zin_of (show zL _ 0 = 6 from rfl) (by unfold vp_in; decide)) ?_
  refine zw_ifeq (tgt := 979) dL_law_972 (by decide) (fun c972 => ?_) (fun c972 => ?_)
  · refine zw_iconst (x := 0) dL_law_979 rfl ?_
    refine zw_aload_n dL_law_980 rfl ?_
    refine zw_callSH (y' := zmL_where) dL_law_981 zlL_122 (by decide +kernel) zmL_where_ok (c1_L_where hfl _ _) rfl rfl (Nat.le_of_ble_eq_true rfl) ⟨Nat.le_of_ble_eq_true rfl, Nat.le_of_ble_eq_true rfl⟩ ⟨Nat.le_of_ble_eq_true rfl, Nat.le_of_ble_eq_true rfl⟩ ?_
    intro v981 s981 q981
    obtain ⟨rfl, hl⟩ := q981
    refine zw_istore dL_law_984 (by decide) rfl ?_
    refine zw_aload_n dL_law_986 rfl ?_
    refine zw_aload_n dL_law_987 rfl ?_
    refine zw_iload dL_law_988 rfl ?_
    refine zw_iconst (x := 1) dL_law_990 rfl ?_
    refine zw_iadd dL_law_991 ?_
    refine zw_iaload dL_law_992 (lk_0 hl) (zin_of (ll_0 hl) (by unfold vp_in; decide)) ?_
    refine zw_aload_n dL_law_993 rfl ?_
    refine zw_iload dL_law_994 rfl ?_
    refine zw_iconst (x := 2) dL_law_996 rfl ?_
    refine zw_iadd dL_law_997 ?_
    refine zw_iaload dL_law_998 (lk_0 hl) (zin_of (ll_0 hl) (by unfold vp_in; decide)) ?_
    refine zw_ifeq (tgt := 1006) dL_law_999 (by decide) (fun c999 => ?_) (fun c999 => ?_)
    · refine zw_iconst (x := 0) dL_law_1006 rfl ?_
      refine zw_callV (y' := zmX6_where) dL_law_1007 zlL_125 zmX6_where_ok (lk_30 hl) (by decide) rfl (c1_X6_where hl _ _) rfl rfl (Nat.le_of_ble_eq_true rfl) ⟨Nat.le_of_ble_eq_true rfl, Nat.le_of_ble_eq_true rfl⟩ ⟨Nat.le_of_ble_eq_true rfl, Nat.le_of_ble_eq_true rfl⟩ ?_
      intro v1007 s1007 q1007
      obtain ⟨⟨bq, rfl⟩, tt, rr⟩ := q1007
      have k30 : zK _ 30 = 6 := (congrFun rr.1 30).trans (lk_30 hl)
      have k00 : zK _ 0 = 100 := (congrFun rr.1 0).trans (lk_0 hl)
      have l00 : zL _ 0 = 6 := (congrFun rr.2.1 0).trans (ll_0 hl)
      have k53 : zK _ 53 = 104 := (congrFun rr.1 53).trans (lk_53 hl)
      have l53 : zL _ 53 = 1 := (congrFun rr.2.1 53).trans (ll_53 hl)
      refine zw_istore dL_law_1010 (by decide) rfl ?_
      refine zw_aload_n dL_law_1012 rfl ?_
      refine zw_callV (y' := zmX6_thrown) dL_law_1013 zlL_84 zmX6_thrown_ok k30 (by decide) rfl (c1_X6_thrown (xs := xs) k30) rfl rfl (Nat.le_of_ble_eq_true rfl) ⟨Nat.le_of_ble_eq_true rfl, Nat.le_of_ble_eq_true rfl⟩ ⟨Nat.le_of_ble_eq_true rfl, Nat.le_of_ble_eq_true rfl⟩ ?_
      intro v1013 s1013 q1013
      obtain ⟨rfl, rfl⟩ := q1013
      rw [tt]
      refine zw_iload dL_law_1016 rfl ?_
      refine zw_icmpeq (tgt := 1023) dL_law_1018 (by decide) (fun c1018 => ?_) (fun c1018 => absurd c1018 (by decide))
      refine zw_iload dL_law_1023 rfl ?_
      refine zw_ifne (tgt := 1040) dL_law_1025 (by decide) (fun c1025 => ?_) (fun c1025 => absurd c1025 (by decide))
      refine zw_goto (tgt := 1421) dL_law_1040 (by decide) ?_
      exact law_tail k00 l00 rfl rfl rfl
    · refine zw_iconst (x := 1) dL_law_1002 rfl ?_
      refine zw_goto (tgt := 1007) dL_law_1003 (by decide) ?_
      refine zw_callV (y' := zmX6_where) dL_law_1007 zlL_125 zmX6_where_ok (lk_30 hl) (by decide) rfl (c1_X6_where hl _ _) rfl rfl (Nat.le_of_ble_eq_true rfl) ⟨Nat.le_of_ble_eq_true rfl, Nat.le_of_ble_eq_true rfl⟩ ⟨Nat.le_of_ble_eq_true rfl, Nat.le_of_ble_eq_true rfl⟩ ?_
      intro v1007 s1007 q1007
      obtain ⟨⟨bq, rfl⟩, tt, rr⟩ := q1007
      have k30 : zK _ 30 = 6 := (congrFun rr.1 30).trans (lk_30 hl)
      have k00 : zK _ 0 = 100 := (congrFun rr.1 0).trans (lk_0 hl)
      have l00 : zL _ 0 = 6 := (congrFun rr.2.1 0).trans (ll_0 hl)
      have k53 : zK _ 53 = 104 := (congrFun rr.1 53).trans (lk_53 hl)
      have l53 : zL _ 53 = 1 := (congrFun rr.2.1 53).trans (ll_53 hl)
      refine zw_istore dL_law_1010 (by decide) rfl ?_
      refine zw_aload_n dL_law_1012 rfl ?_
      refine zw_callV (y' := zmX6_thrown) dL_law_1013 zlL_84 zmX6_thrown_ok k30 (by decide) rfl (c1_X6_thrown (xs := xs) k30) rfl rfl (Nat.le_of_ble_eq_true rfl) ⟨Nat.le_of_ble_eq_true rfl, Nat.le_of_ble_eq_true rfl⟩ ⟨Nat.le_of_ble_eq_true rfl, Nat.le_of_ble_eq_true rfl⟩ ?_
      intro v1013 s1013 q1013
      obtain ⟨rfl, rfl⟩ := q1013
      rw [tt]
      refine zw_iload dL_law_1016 rfl ?_
      refine zw_icmpeq (tgt := 1023) dL_law_1018 (by decide) (fun c1018 => ?_) (fun c1018 => absurd c1018 (by decide))
      refine zw_iload dL_law_1023 rfl ?_
      refine zw_ifne (tgt := 1040) dL_law_1025 (by decide) (fun c1025 => ?_) (fun c1025 => absurd c1025 (by decide))
      refine zw_goto (tgt := 1421) dL_law_1040 (by decide) ?_
      exact law_tail k00 l00 rfl rfl rfl
  · refine zw_iconst (x := 1) dL_law_975 rfl ?_
    refine zw_goto (tgt := 980) dL_law_976 (by decide) ?_
    refine zw_aload_n dL_law_980 rfl ?_
    refine zw_callSH (y' := zmL_where) dL_law_981 zlL_122 (by decide +kernel) zmL_where_ok (c1_L_where hfl _ _) rfl rfl (Nat.le_of_ble_eq_true rfl) ⟨Nat.le_of_ble_eq_true rfl, Nat.le_of_ble_eq_true rfl⟩ ⟨Nat.le_of_ble_eq_true rfl, Nat.le_of_ble_eq_true rfl⟩ ?_
    intro v981 s981 q981
    obtain ⟨rfl, hl⟩ := q981
    refine zw_istore dL_law_984 (by decide) rfl ?_
    refine zw_aload_n dL_law_986 rfl ?_
    refine zw_aload_n dL_law_987 rfl ?_
    refine zw_iload dL_law_988 rfl ?_
    refine zw_iconst (x := 1) dL_law_990 rfl ?_
    refine zw_iadd dL_law_991 ?_
    refine zw_iaload dL_law_992 (lk_0 hl) (zin_of (ll_0 hl) (by unfold vp_in; decide)) ?_
    refine zw_aload_n dL_law_993 rfl ?_
    refine zw_iload dL_law_994 rfl ?_
    refine zw_iconst (x := 2) dL_law_996 rfl ?_
    refine zw_iadd dL_law_997 ?_
    refine zw_iaload dL_law_998 (lk_0 hl) (zin_of (ll_0 hl) (by unfold vp_in; decide)) ?_
    refine zw_ifeq (tgt := 1006) dL_law_999 (by decide) (fun c999 => ?_) (fun c999 => ?_)
    · refine zw_iconst (x := 0) dL_law_1006 rfl ?_
      refine zw_callV (y' := zmX6_where) dL_law_1007 zlL_125 zmX6_where_ok (lk_30 hl) (by decide) rfl (c1_X6_where hl _ _) rfl rfl (Nat.le_of_ble_eq_true rfl) ⟨Nat.le_of_ble_eq_true rfl, Nat.le_of_ble_eq_true rfl⟩ ⟨Nat.le_of_ble_eq_true rfl, Nat.le_of_ble_eq_true rfl⟩ ?_
      intro v1007 s1007 q1007
      obtain ⟨⟨bq, rfl⟩, tt, rr⟩ := q1007
      have k30 : zK _ 30 = 6 := (congrFun rr.1 30).trans (lk_30 hl)
      have k00 : zK _ 0 = 100 := (congrFun rr.1 0).trans (lk_0 hl)
      have l00 : zL _ 0 = 6 := (congrFun rr.2.1 0).trans (ll_0 hl)
      have k53 : zK _ 53 = 104 := (congrFun rr.1 53).trans (lk_53 hl)
      have l53 : zL _ 53 = 1 := (congrFun rr.2.1 53).trans (ll_53 hl)
      refine zw_istore dL_law_1010 (by decide) rfl ?_
      refine zw_aload_n dL_law_1012 rfl ?_
      refine zw_callV (y' := zmX6_thrown) dL_law_1013 zlL_84 zmX6_thrown_ok k30 (by decide) rfl (c1_X6_thrown (xs := xs) k30) rfl rfl (Nat.le_of_ble_eq_true rfl) ⟨Nat.le_of_ble_eq_true rfl, Nat.le_of_ble_eq_true rfl⟩ ⟨Nat.le_of_ble_eq_true rfl, Nat.le_of_ble_eq_true rfl⟩ ?_
      intro v1013 s1013 q1013
      obtain ⟨rfl, rfl⟩ := q1013
      rw [tt]
      refine zw_iload dL_law_1016 rfl ?_
      refine zw_icmpeq (tgt := 1023) dL_law_1018 (by decide) (fun c1018 => ?_) (fun c1018 => absurd c1018 (by decide))
      refine zw_iload dL_law_1023 rfl ?_
      refine zw_ifne (tgt := 1040) dL_law_1025 (by decide) (fun c1025 => ?_) (fun c1025 => absurd c1025 (by decide))
      refine zw_goto (tgt := 1421) dL_law_1040 (by decide) ?_
      exact law_tail k00 l00 rfl rfl rfl
    · refine zw_iconst (x := 1) dL_law_1002 rfl ?_
      refine zw_goto (tgt := 1007) dL_law_1003 (by decide) ?_
      refine zw_callV (y' := zmX6_where) dL_law_1007 zlL_125 zmX6_where_ok (lk_30 hl) (by decide) rfl (c1_X6_where hl _ _) rfl rfl (Nat.le_of_ble_eq_true rfl) ⟨Nat.le_of_ble_eq_true rfl, Nat.le_of_ble_eq_true rfl⟩ ⟨Nat.le_of_ble_eq_true rfl, Nat.le_of_ble_eq_true rfl⟩ ?_
      intro v1007 s1007 q1007
      obtain ⟨⟨bq, rfl⟩, tt, rr⟩ := q1007
      have k30 : zK _ 30 = 6 := (congrFun rr.1 30).trans (lk_30 hl)
      have k00 : zK _ 0 = 100 := (congrFun rr.1 0).trans (lk_0 hl)
      have l00 : zL _ 0 = 6 := (congrFun rr.2.1 0).trans (ll_0 hl)
      have k53 : zK _ 53 = 104 := (congrFun rr.1 53).trans (lk_53 hl)
      have l53 : zL _ 53 = 1 := (congrFun rr.2.1 53).trans (ll_53 hl)
      refine zw_istore dL_law_1010 (by decide) rfl ?_
      refine zw_aload_n dL_law_1012 rfl ?_
      refine zw_callV (y' := zmX6_thrown) dL_law_1013 zlL_84 zmX6_thrown_ok k30 (by decide) rfl (c1_X6_thrown (xs := xs) k30) rfl rfl (Nat.le_of_ble_eq_true rfl) ⟨Nat.le_of_ble_eq_true rfl, Nat.le_of_ble_eq_true rfl⟩ ⟨Nat.le_of_ble_eq_true rfl, Nat.le_of_ble_eq_true rfl⟩ ?_
      intro v1013 s1013 q1013
      obtain ⟨rfl, rfl⟩ := q1013
      rw [tt]
      refine zw_iload dL_law_1016 rfl ?_
      refine zw_icmpeq (tgt := 1023) dL_law_1018 (by decide) (fun c1018 => ?_) (fun c1018 => absurd c1018 (by decide))
      refine zw_iload dL_law_1023 rfl ?_
      refine zw_ifne (tgt := 1040) dL_law_1025 (by decide) (fun c1025 => ?_) (fun c1025 => absurd c1025 (by decide))
      refine zw_goto (tgt := 1421) dL_law_1040 (by decide) ?_
      exact law_tail k00 l00 rfl rfl rfl
set_option maxHeartbeats 4000000 in
set_option maxRecDepth 100000 in
theorem law_case12 {l : Launch} (hfl : l.stackTraces = false) {xs : Nat → Int32} : zAW l zmL_law room_1 1043 [(4, .int 0), (3, .ref 53), (2, .ref 30), (1, .ref 1), (0, .ref 0)] [] (hF 6 xs) 1000 100000 (fun v _ => v = some (.int 1)) := by
  refine zw_aload_n dL_law_1043 rfl ?_
  refine zw_aload_n dL_law_1044 rfl ?_
  refine zw_callSH (y' := zmL_stuck) dL_law_1045 zlL_126 (by decide +kernel) zmL_stuck_ok (c1_L_stuck hfl) rfl rfl (Nat.le_of_ble_eq_true rfl) ⟨Nat.le_of_ble_eq_true rfl, Nat.le_of_ble_eq_true rfl⟩ ⟨Nat.le_of_ble_eq_true rfl, Nat.le_of_ble_eq_true rfl⟩ ?_
  intro v1045 s1045 q1045
  obtain ⟨rfl, hl⟩ := q1045
  refine zw_istore dL_law_1048 (by decide) rfl ?_
  refine zw_aload_n dL_law_1050 rfl ?_
  refine zw_callV (y' := zmX6_stuck) dL_law_1051 zlL_128 zmX6_stuck_ok (lk_30 hl) (by decide) rfl (c1_X6_stuck hl) rfl rfl (Nat.le_of_ble_eq_true rfl) ⟨Nat.le_of_ble_eq_true rfl, Nat.le_of_ble_eq_true rfl⟩ ⟨Nat.le_of_ble_eq_true rfl, Nat.le_of_ble_eq_true rfl⟩ ?_
  intro v1051 s1051 q1051
  obtain ⟨⟨bq, rfl⟩, tt, rr⟩ := q1051
  have k30 : zK _ 30 = 6 := (congrFun rr.1 30).trans (lk_30 hl)
  have k00 : zK _ 0 = 100 := (congrFun rr.1 0).trans (lk_0 hl)
  have l00 : zL _ 0 = 6 := (congrFun rr.2.1 0).trans (ll_0 hl)
  have k53 : zK _ 53 = 104 := (congrFun rr.1 53).trans (lk_53 hl)
  have l53 : zL _ 53 = 1 := (congrFun rr.2.1 53).trans (ll_53 hl)
  refine zw_istore dL_law_1054 (by decide) rfl ?_
  refine zw_aload_n dL_law_1056 rfl ?_
  refine zw_callV (y' := zmX6_thrown) dL_law_1057 zlL_84 zmX6_thrown_ok k30 (by decide) rfl (c1_X6_thrown (xs := xs) k30) rfl rfl (Nat.le_of_ble_eq_true rfl) ⟨Nat.le_of_ble_eq_true rfl, Nat.le_of_ble_eq_true rfl⟩ ⟨Nat.le_of_ble_eq_true rfl, Nat.le_of_ble_eq_true rfl⟩ ?_
  intro v1057 s1057 q1057
  obtain ⟨rfl, rfl⟩ := q1057
  rw [tt]
  refine zw_iload dL_law_1060 rfl ?_
  refine zw_icmpeq (tgt := 1067) dL_law_1062 (by decide) (fun c1062 => ?_) (fun c1062 => absurd c1062 (by decide))
  refine zw_iload dL_law_1067 rfl ?_
  refine zw_ifne (tgt := 1084) dL_law_1069 (by decide) (fun c1069 => ?_) (fun c1069 => absurd c1069 (by decide))
  refine zw_goto (tgt := 1421) dL_law_1084 (by decide) ?_
  exact law_tail k00 l00 rfl rfl rfl
set_option maxHeartbeats 4000000 in
set_option maxRecDepth 100000 in
theorem law_case13 {l : Launch} (hfl : l.stackTraces = false) {xs : Nat → Int32} : zAW l zmL_law room_1 1087 [(4, .int 0), (3, .ref 53), (2, .ref 30), (1, .ref 1), (0, .ref 0)] [] (hF 6 xs) 1000 100000 (fun v _ => v = some (.int 1)) := by
  refine zw_aload_n dL_law_1087 rfl ?_
  refine zw_aload_n dL_law_1088 rfl ?_
  refine zw_iload dL_law_1089 rfl ?_
  refine zw_iconst (x := 1) dL_law_1091 rfl ?_
  refine zw_iadd dL_law_1092 ?_
  refine zw_iaload dL_law_1093 (show zK _ 0 = 100 from rfl) (zin_of (show zL _ 0 = 6 from rfl) (by unfold vp_in; decide)) ?_
  refine zw_aload_n dL_law_1094 rfl ?_
  refine zw_iload dL_law_1095 rfl ?_
  refine zw_iconst (x := 2) dL_law_1097 rfl ?_
  refine zw_iadd dL_law_1098 ?_
  refine zw_iaload dL_law_1099 (show zK _ 0 = 100 from rfl) (zin_of (show zL _ 0 = 6 from rfl) (by unfold vp_in; decide)) ?_
  refine zw_aload_n dL_law_1100 rfl ?_
  refine zw_callSH (y' := zmL_leads) dL_law_1101 zlL_129 (by decide +kernel) zmL_leads_ok (c1_L_leads hfl _ _) rfl rfl (Nat.le_of_ble_eq_true rfl) ⟨Nat.le_of_ble_eq_true rfl, Nat.le_of_ble_eq_true rfl⟩ ⟨Nat.le_of_ble_eq_true rfl, Nat.le_of_ble_eq_true rfl⟩ ?_
  intro v1101 s1101 q1101
  obtain ⟨rfl, hl⟩ := q1101
  refine zw_istore dL_law_1104 (by decide) rfl ?_
  refine zw_aload_n dL_law_1106 rfl ?_
  refine zw_aload_n dL_law_1107 rfl ?_
  refine zw_iload dL_law_1108 rfl ?_
  refine zw_iconst (x := 1) dL_law_1110 rfl ?_
  refine zw_iadd dL_law_1111 ?_
  refine zw_iaload dL_law_1112 (lk_0 hl) (zin_of (ll_0 hl) (by unfold vp_in; decide)) ?_
  refine zw_aload_n dL_law_1113 rfl ?_
  refine zw_iload dL_law_1114 rfl ?_
  refine zw_iconst (x := 2) dL_law_1116 rfl ?_
  refine zw_iadd dL_law_1117 ?_
  refine zw_iaload dL_law_1118 (lk_0 hl) (zin_of (ll_0 hl) (by unfold vp_in; decide)) ?_
  refine zw_callV (y' := zmX6_leads) dL_law_1119 zlL_131 zmX6_leads_ok (lk_30 hl) (by decide) rfl (c1_X6_leads hl _ _) rfl rfl (Nat.le_of_ble_eq_true rfl) ⟨Nat.le_of_ble_eq_true rfl, Nat.le_of_ble_eq_true rfl⟩ ⟨Nat.le_of_ble_eq_true rfl, Nat.le_of_ble_eq_true rfl⟩ ?_
  intro v1119 s1119 q1119
  obtain ⟨⟨bq, rfl⟩, tt, rr⟩ := q1119
  have k30 : zK _ 30 = 6 := (congrFun rr.1 30).trans (lk_30 hl)
  have k00 : zK _ 0 = 100 := (congrFun rr.1 0).trans (lk_0 hl)
  have l00 : zL _ 0 = 6 := (congrFun rr.2.1 0).trans (ll_0 hl)
  have k53 : zK _ 53 = 104 := (congrFun rr.1 53).trans (lk_53 hl)
  have l53 : zL _ 53 = 1 := (congrFun rr.2.1 53).trans (ll_53 hl)
  refine zw_istore dL_law_1122 (by decide) rfl ?_
  refine zw_aload_n dL_law_1124 rfl ?_
  refine zw_callV (y' := zmX6_thrown) dL_law_1125 zlL_84 zmX6_thrown_ok k30 (by decide) rfl (c1_X6_thrown (xs := xs) k30) rfl rfl (Nat.le_of_ble_eq_true rfl) ⟨Nat.le_of_ble_eq_true rfl, Nat.le_of_ble_eq_true rfl⟩ ⟨Nat.le_of_ble_eq_true rfl, Nat.le_of_ble_eq_true rfl⟩ ?_
  intro v1125 s1125 q1125
  obtain ⟨rfl, rfl⟩ := q1125
  rw [tt]
  refine zw_iload dL_law_1128 rfl ?_
  refine zw_icmpeq (tgt := 1135) dL_law_1130 (by decide) (fun c1130 => ?_) (fun c1130 => absurd c1130 (by decide))
  refine zw_iload dL_law_1135 rfl ?_
  refine zw_ifne (tgt := 1152) dL_law_1137 (by decide) (fun c1137 => ?_) (fun c1137 => absurd c1137 (by decide))
  refine zw_goto (tgt := 1421) dL_law_1152 (by decide) ?_
  exact law_tail k00 l00 rfl rfl rfl
set_option maxHeartbeats 4000000 in
set_option maxRecDepth 100000 in
theorem law_case14 {l : Launch} (hfl : l.stackTraces = false) {xs : Nat → Int32} : zAW l zmL_law room_1 1155 [(4, .int 0), (3, .ref 53), (2, .ref 30), (1, .ref 1), (0, .ref 0)] [] (hF 6 xs) 1000 100000 (fun v _ => v = some (.int 1)) := by
  refine zw_aload_n dL_law_1155 rfl ?_
  refine zw_aload_n dL_law_1156 rfl ?_
  refine zw_iload dL_law_1157 rfl ?_
  refine zw_iconst (x := 1) dL_law_1159 rfl ?_
  refine zw_iadd dL_law_1160 ?_
  refine zw_iaload dL_law_1161 (show zK _ 0 = 100 from rfl) (zin_of (show zL _ 0 = 6 from rfl) (by unfold vp_in; decide)) ?_
  refine zw_aload_n dL_law_1162 rfl ?_
  refine zw_iload dL_law_1163 rfl ?_
  refine zw_iconst (x := 2) dL_law_1165 rfl ?_
  refine zw_iadd dL_law_1166 ?_
  refine zw_iaload dL_law_1167 (show zK _ 0 = 100 from rfl) (zin_of (show zL _ 0 = 6 from rfl) (by unfold vp_in; decide)) ?_
  refine zw_aload_n dL_law_1168 rfl ?_
  refine zw_callSH (y' := zmL_isBad) dL_law_1169 zlL_132 (by decide +kernel) zmL_isBad_ok (c1_L_isBad hfl _ _) rfl rfl (Nat.le_of_ble_eq_true rfl) ⟨Nat.le_of_ble_eq_true rfl, Nat.le_of_ble_eq_true rfl⟩ ⟨Nat.le_of_ble_eq_true rfl, Nat.le_of_ble_eq_true rfl⟩ ?_
  intro v1169 s1169 q1169
  obtain ⟨rfl, hl⟩ := q1169
  refine zw_istore dL_law_1172 (by decide) rfl ?_
  refine zw_aload_n dL_law_1174 rfl ?_
  refine zw_aload_n dL_law_1175 rfl ?_
  refine zw_iload dL_law_1176 rfl ?_
  refine zw_iconst (x := 1) dL_law_1178 rfl ?_
  refine zw_iadd dL_law_1179 ?_
  refine zw_iaload dL_law_1180 (lk_0 hl) (zin_of (ll_0 hl) (by unfold vp_in; decide)) ?_
  refine zw_aload_n dL_law_1181 rfl ?_
  refine zw_iload dL_law_1182 rfl ?_
  refine zw_iconst (x := 2) dL_law_1184 rfl ?_
  refine zw_iadd dL_law_1185 ?_
  refine zw_iaload dL_law_1186 (lk_0 hl) (zin_of (ll_0 hl) (by unfold vp_in; decide)) ?_
  refine zw_callV (y' := zmX6_isBad) dL_law_1187 zlL_134 zmX6_isBad_ok (lk_30 hl) (by decide) rfl (c1_X6_isBad hl _ _) rfl rfl (Nat.le_of_ble_eq_true rfl) ⟨Nat.le_of_ble_eq_true rfl, Nat.le_of_ble_eq_true rfl⟩ ⟨Nat.le_of_ble_eq_true rfl, Nat.le_of_ble_eq_true rfl⟩ ?_
  intro v1187 s1187 q1187
  obtain ⟨⟨bq, rfl⟩, tt, rr⟩ := q1187
  have k30 : zK _ 30 = 6 := (congrFun rr.1 30).trans (lk_30 hl)
  have k00 : zK _ 0 = 100 := (congrFun rr.1 0).trans (lk_0 hl)
  have l00 : zL _ 0 = 6 := (congrFun rr.2.1 0).trans (ll_0 hl)
  have k53 : zK _ 53 = 104 := (congrFun rr.1 53).trans (lk_53 hl)
  have l53 : zL _ 53 = 1 := (congrFun rr.2.1 53).trans (ll_53 hl)
  refine zw_istore dL_law_1190 (by decide) rfl ?_
  refine zw_aload_n dL_law_1192 rfl ?_
  refine zw_callV (y' := zmX6_thrown) dL_law_1193 zlL_84 zmX6_thrown_ok k30 (by decide) rfl (c1_X6_thrown (xs := xs) k30) rfl rfl (Nat.le_of_ble_eq_true rfl) ⟨Nat.le_of_ble_eq_true rfl, Nat.le_of_ble_eq_true rfl⟩ ⟨Nat.le_of_ble_eq_true rfl, Nat.le_of_ble_eq_true rfl⟩ ?_
  intro v1193 s1193 q1193
  obtain ⟨rfl, rfl⟩ := q1193
  rw [tt]
  refine zw_iload dL_law_1196 rfl ?_
  refine zw_icmpeq (tgt := 1203) dL_law_1198 (by decide) (fun c1198 => ?_) (fun c1198 => absurd c1198 (by decide))
  refine zw_iload dL_law_1203 rfl ?_
  refine zw_ifne (tgt := 1227) dL_law_1205 (by decide) (fun c1205 => ?_) (fun c1205 => absurd c1205 (by decide))
  refine zw_goto (tgt := 1421) dL_law_1227 (by decide) ?_
  exact law_tail k00 l00 rfl rfl rfl
set_option maxHeartbeats 4000000 in
set_option maxRecDepth 100000 in
theorem law_case15 {l : Launch} (hfl : l.stackTraces = false) {xs : Nat → Int32} : zAW l zmL_law room_1 1230 [(4, .int 0), (3, .ref 53), (2, .ref 30), (1, .ref 1), (0, .ref 0)] [] (hF 6 xs) 1000 100000 (fun v _ => v = some (.int 1)) := by
  refine zw_aload_n dL_law_1230 rfl ?_
  refine zw_aload_n dL_law_1231 rfl ?_
  refine zw_iload dL_law_1232 rfl ?_
  refine zw_iconst (x := 1) dL_law_1234 rfl ?_
  refine zw_iadd dL_law_1235 ?_
  refine zw_iaload dL_law_1236 (show zK _ 0 = 100 from rfl) (zin_of (show zL _ 0 = 6 from rfl) (by unfold vp_in; decide)) ?_
  refine zw_aload_n dL_law_1237 rfl ?_
  refine zw_callSH (y' := zmL_trapped) dL_law_1238 zlL_135 (by decide +kernel) zmL_trapped_ok (c1_L_trapped hfl _) rfl rfl (Nat.le_of_ble_eq_true rfl) ⟨Nat.le_of_ble_eq_true rfl, Nat.le_of_ble_eq_true rfl⟩ ⟨Nat.le_of_ble_eq_true rfl, Nat.le_of_ble_eq_true rfl⟩ ?_
  intro v1238 s1238 q1238
  obtain ⟨rfl, hl⟩ := q1238
  refine zw_istore dL_law_1241 (by decide) rfl ?_
  refine zw_aload_n dL_law_1243 rfl ?_
  refine zw_aload_n dL_law_1244 rfl ?_
  refine zw_iload dL_law_1245 rfl ?_
  refine zw_iconst (x := 1) dL_law_1247 rfl ?_
  refine zw_iadd dL_law_1248 ?_
  refine zw_iaload dL_law_1249 (lk_0 hl) (zin_of (ll_0 hl) (by unfold vp_in; decide)) ?_
  refine zw_callV (y' := zmX6_trapped) dL_law_1250 zlL_137 zmX6_trapped_ok (lk_30 hl) (by decide) rfl (c1_X6_trapped hl _) rfl rfl (Nat.le_of_ble_eq_true rfl) ⟨Nat.le_of_ble_eq_true rfl, Nat.le_of_ble_eq_true rfl⟩ ⟨Nat.le_of_ble_eq_true rfl, Nat.le_of_ble_eq_true rfl⟩ ?_
  intro v1250 s1250 q1250
  obtain ⟨⟨bq, rfl⟩, tt, rr⟩ := q1250
  have k30 : zK _ 30 = 6 := (congrFun rr.1 30).trans (lk_30 hl)
  have k00 : zK _ 0 = 100 := (congrFun rr.1 0).trans (lk_0 hl)
  have l00 : zL _ 0 = 6 := (congrFun rr.2.1 0).trans (ll_0 hl)
  have k53 : zK _ 53 = 104 := (congrFun rr.1 53).trans (lk_53 hl)
  have l53 : zL _ 53 = 1 := (congrFun rr.2.1 53).trans (ll_53 hl)
  refine zw_istore dL_law_1253 (by decide) rfl ?_
  refine zw_aload_n dL_law_1255 rfl ?_
  refine zw_callV (y' := zmX6_thrown) dL_law_1256 zlL_84 zmX6_thrown_ok k30 (by decide) rfl (c1_X6_thrown (xs := xs) k30) rfl rfl (Nat.le_of_ble_eq_true rfl) ⟨Nat.le_of_ble_eq_true rfl, Nat.le_of_ble_eq_true rfl⟩ ⟨Nat.le_of_ble_eq_true rfl, Nat.le_of_ble_eq_true rfl⟩ ?_
  intro v1256 s1256 q1256
  obtain ⟨rfl, rfl⟩ := q1256
  rw [tt]
  refine zw_iload dL_law_1259 rfl ?_
  refine zw_icmpeq (tgt := 1266) dL_law_1261 (by decide) (fun c1261 => ?_) (fun c1261 => absurd c1261 (by decide))
  refine zw_iload dL_law_1266 rfl ?_
  refine zw_ifne (tgt := 1283) dL_law_1268 (by decide) (fun c1268 => ?_) (fun c1268 => absurd c1268 (by decide))
  refine zw_goto (tgt := 1421) dL_law_1283 (by decide) ?_
  exact law_tail k00 l00 rfl rfl rfl
set_option maxHeartbeats 4000000 in
set_option maxRecDepth 100000 in
theorem law_case16 {l : Launch} (hfl : l.stackTraces = false) {xs : Nat → Int32} : zAW l zmL_law room_1 1286 [(4, .int 0), (3, .ref 53), (2, .ref 30), (1, .ref 1), (0, .ref 0)] [] (hF 6 xs) 1000 100000 (fun v _ => v = some (.int 1)) := by
  refine zw_aload_n dL_law_1286 rfl ?_
  refine zw_aload_n dL_law_1287 rfl ?_
  refine zw_iload dL_law_1288 rfl ?_
  refine zw_iconst (x := 1) dL_law_1290 rfl ?_
  refine zw_iadd dL_law_1291 ?_
  refine zw_iaload dL_law_1292 (show zK _ 0 = 100 from rfl) (zin_of (show zL _ 0 = 6 from rfl) (by unfold vp_in; decide)) ?_
  refine zw_aload_n dL_law_1293 rfl ?_
  refine zw_iload dL_law_1294 rfl ?_
  refine zw_iconst (x := 2) dL_law_1296 rfl ?_
  refine zw_iadd dL_law_1297 ?_
  refine zw_iaload dL_law_1298 (show zK _ 0 = 100 from rfl) (zin_of (show zL _ 0 = 6 from rfl) (by unfold vp_in; decide)) ?_
  refine zw_aload_n dL_law_1299 rfl ?_
  refine zw_iload dL_law_1300 rfl ?_
  refine zw_iconst (x := 3) dL_law_1302 rfl ?_
  refine zw_iadd dL_law_1303 ?_
  refine zw_iaload dL_law_1304 (show zK _ 0 = 100 from rfl) (zin_of (show zL _ 0 = 6 from rfl) (by unfold vp_in; decide)) ?_
  refine zw_aload_n dL_law_1305 rfl ?_
  refine zw_callSH (y' := zmL_way) dL_law_1306 zlL_138 (by decide +kernel) zmL_way_ok (c1_L_way hfl _ _ _) rfl rfl (Nat.le_of_ble_eq_true rfl) ⟨Nat.le_of_ble_eq_true rfl, Nat.le_of_ble_eq_true rfl⟩ ⟨Nat.le_of_ble_eq_true rfl, Nat.le_of_ble_eq_true rfl⟩ ?_
  intro v1306 s1306 q1306
  obtain ⟨rfl, hl⟩ := q1306
  refine zw_istore dL_law_1309 (by decide) rfl ?_
  refine zw_aload_n dL_law_1311 rfl ?_
  refine zw_aload_n dL_law_1312 rfl ?_
  refine zw_iload dL_law_1313 rfl ?_
  refine zw_iconst (x := 1) dL_law_1315 rfl ?_
  refine zw_iadd dL_law_1316 ?_
  refine zw_iaload dL_law_1317 (lk_0 hl) (zin_of (ll_0 hl) (by unfold vp_in; decide)) ?_
  refine zw_aload_n dL_law_1318 rfl ?_
  refine zw_iload dL_law_1319 rfl ?_
  refine zw_iconst (x := 2) dL_law_1321 rfl ?_
  refine zw_iadd dL_law_1322 ?_
  refine zw_iaload dL_law_1323 (lk_0 hl) (zin_of (ll_0 hl) (by unfold vp_in; decide)) ?_
  refine zw_aload_n dL_law_1324 rfl ?_
  refine zw_iload dL_law_1325 rfl ?_
  refine zw_iconst (x := 3) dL_law_1327 rfl ?_
  refine zw_iadd dL_law_1328 ?_
  refine zw_iaload dL_law_1329 (lk_0 hl) (zin_of (ll_0 hl) (by unfold vp_in; decide)) ?_
  refine zw_callV (y' := zmX6_way) dL_law_1330 zlL_140 zmX6_way_ok (lk_30 hl) (by decide) rfl (c1_X6_way hl _ _ _) rfl rfl (Nat.le_of_ble_eq_true rfl) ⟨Nat.le_of_ble_eq_true rfl, Nat.le_of_ble_eq_true rfl⟩ ⟨Nat.le_of_ble_eq_true rfl, Nat.le_of_ble_eq_true rfl⟩ ?_
  intro v1330 s1330 q1330
  obtain ⟨⟨bq, rfl⟩, tt, rr⟩ := q1330
  have k30 : zK _ 30 = 6 := (congrFun rr.1 30).trans (lk_30 hl)
  have k00 : zK _ 0 = 100 := (congrFun rr.1 0).trans (lk_0 hl)
  have l00 : zL _ 0 = 6 := (congrFun rr.2.1 0).trans (ll_0 hl)
  have k53 : zK _ 53 = 104 := (congrFun rr.1 53).trans (lk_53 hl)
  have l53 : zL _ 53 = 1 := (congrFun rr.2.1 53).trans (ll_53 hl)
  refine zw_istore dL_law_1333 (by decide) rfl ?_
  refine zw_aload_n dL_law_1335 rfl ?_
  refine zw_callV (y' := zmX6_thrown) dL_law_1336 zlL_84 zmX6_thrown_ok k30 (by decide) rfl (c1_X6_thrown (xs := xs) k30) rfl rfl (Nat.le_of_ble_eq_true rfl) ⟨Nat.le_of_ble_eq_true rfl, Nat.le_of_ble_eq_true rfl⟩ ⟨Nat.le_of_ble_eq_true rfl, Nat.le_of_ble_eq_true rfl⟩ ?_
  intro v1336 s1336 q1336
  obtain ⟨rfl, rfl⟩ := q1336
  rw [tt]
  refine zw_iload dL_law_1339 rfl ?_
  refine zw_icmpeq (tgt := 1346) dL_law_1341 (by decide) (fun c1341 => ?_) (fun c1341 => absurd c1341 (by decide))
  refine zw_iload dL_law_1346 rfl ?_
  refine zw_ifne (tgt := 1363) dL_law_1348 (by decide) (fun c1348 => ?_) (fun c1348 => absurd c1348 (by decide))
  refine zw_goto (tgt := 1421) dL_law_1363 (by decide) ?_
  exact law_tail k00 l00 rfl rfl rfl
set_option maxHeartbeats 4000000 in
set_option maxRecDepth 100000 in
theorem law_case17 {l : Launch} (hfl : l.stackTraces = false) {xs : Nat → Int32} : zAW l zmL_law room_1 1366 [(4, .int 0), (3, .ref 53), (2, .ref 30), (1, .ref 1), (0, .ref 0)] [] (hF 6 xs) 1000 100000 (fun v _ => v = some (.int 1)) := by
  refine zw_aload_n dL_law_1366 rfl ?_
  refine zw_callV (y' := zmX5_branching) dL_law_1367 zlL_141 zmX5_branching_ok (show zK _ 1 = 5 from rfl) (by decide) rfl c1_X5_branching rfl rfl (Nat.le_of_ble_eq_true rfl) ⟨Nat.le_of_ble_eq_true rfl, Nat.le_of_ble_eq_true rfl⟩ ⟨Nat.le_of_ble_eq_true rfl, Nat.le_of_ble_eq_true rfl⟩ ?_
  intro v1367 s1367 q1367
  obtain ⟨rfl, rfl⟩ := q1367
  refine zw_dstore dL_law_1370 (by decide) rfl rfl ?_
  refine zw_aload_n dL_law_1372 rfl ?_
  refine zw_callV (y' := zmX6_branching) dL_law_1373 zlL_145 zmX6_branching_ok (show zK _ 30 = 6 from rfl) (by decide) rfl (c1_X6_branching lSh_hF) rfl rfl (Nat.le_of_ble_eq_true rfl) ⟨Nat.le_of_ble_eq_true rfl, Nat.le_of_ble_eq_true rfl⟩ ⟨Nat.le_of_ble_eq_true rfl, Nat.le_of_ble_eq_true rfl⟩ ?_
  intro v1373 s1373 q1373
  obtain ⟨rfl, rr⟩ := q1373
  have k30 : zK _ 30 = 6 := (congrFun rr.1 30).trans (lk_30 (lSh_hF (xs := xs)))
  have k00 : zK _ 0 = 100 := (congrFun rr.1 0).trans (lk_0 (lSh_hF (xs := xs)))
  have l00 : zL _ 0 = 6 := (congrFun rr.2.1 0).trans (ll_0 (lSh_hF (xs := xs)))
  have k53 : zK _ 53 = 104 := (congrFun rr.1 53).trans (lk_53 (lSh_hF (xs := xs)))
  have l53 : zL _ 53 = 1 := (congrFun rr.2.1 53).trans (ll_53 (lSh_hF (xs := xs)))
  refine zw_dstore dL_law_1376 (by decide) rfl rfl ?_
  refine zw_dload dL_law_1378 rfl ?_
  refine zw_dload dL_law_1380 rfl ?_
  refine zw_dcmp dL_law_1382 ?_
  refine zw_ifeq (tgt := 1404) dL_law_1383 (by decide) (fun c1383 => ?_) (fun c1383 => absurd (by decide +kernel) c1383)
  refine zw_goto (tgt := 1421) dL_law_1404 (by decide) ?_
  exact law_tail k00 l00 rfl rfl rfl
set_option maxHeartbeats 4000000 in
set_option maxRecDepth 100000 in
theorem law_case18 {l : Launch} (hfl : l.stackTraces = false) {xs : Nat → Int32} : zAW l zmL_law room_1 1407 [(4, .int 0), (3, .ref 53), (2, .ref 30), (1, .ref 1), (0, .ref 0)] [] (hF 6 xs) 1000 100000 (fun v _ => v = some (.int 1)) := by
  refine zw_aload_n dL_law_1407 rfl ?_
  refine zw_callV (y' := zmX5_digest) dL_law_1408 zlL_146 zmX5_digest_ok (show zK _ 1 = 5 from rfl) (by decide) rfl c1_X5_digest rfl rfl (Nat.le_of_ble_eq_true rfl) ⟨Nat.le_of_ble_eq_true rfl, Nat.le_of_ble_eq_true rfl⟩ ⟨Nat.le_of_ble_eq_true rfl, Nat.le_of_ble_eq_true rfl⟩ ?_
  intro v1408 s1408 q1408
  obtain ⟨rfl, rfl⟩ := q1408
  refine zw_aload_n dL_law_1411 rfl ?_
  refine zw_callV (y' := zmX6_digest) dL_law_1412 zlL_150 zmX6_digest_ok (show zK _ 30 = 6 from rfl) (by decide) rfl (c1_X6_digest lSh_hF) rfl rfl (Nat.le_of_ble_eq_true rfl) ⟨Nat.le_of_ble_eq_true rfl, Nat.le_of_ble_eq_true rfl⟩ ⟨Nat.le_of_ble_eq_true rfl, Nat.le_of_ble_eq_true rfl⟩ ?_
  intro v1412 s1412 q1412
  obtain ⟨rfl, rr⟩ := q1412
  have k30 : zK _ 30 = 6 := (congrFun rr.1 30).trans (lk_30 (lSh_hF (xs := xs)))
  have k00 : zK _ 0 = 100 := (congrFun rr.1 0).trans (lk_0 (lSh_hF (xs := xs)))
  have l00 : zL _ 0 = 6 := (congrFun rr.2.1 0).trans (ll_0 (lSh_hF (xs := xs)))
  have k53 : zK _ 53 = 104 := (congrFun rr.1 53).trans (lk_53 (lSh_hF (xs := xs)))
  have l53 : zL _ 53 = 1 := (congrFun rr.2.1 53).trans (ll_53 (lSh_hF (xs := xs)))
  refine zw_lcmp dL_law_1415 ?_
  refine zw_ifeq (tgt := 1421) dL_law_1416 (by decide) (fun c1416 => ?_) (fun c1416 => absurd (by decide +kernel) c1416)
  exact law_tail k00 l00 rfl rfl rfl
set_option maxHeartbeats 4000000 in
set_option maxRecDepth 100000 in
theorem law_walk {l : Launch} (hfl : l.stackTraces = false) {L : Nat} (hL : L ≤ 6) {xs : Nat → Int32} : zAW l zmL_law room_1 0 [(0, .ref 0)] [] (zMk [(0, 100)] [(0, L)] [] [] [] xs 1) 0 0 (fun v _ => v = some (.int 1)) := by
  refine zw_new dL_law_0 znL_8 zdef_5 (by decide) ⟨Nat.le_of_ble_eq_true rfl, Nat.le_of_ble_eq_true rfl⟩ ?_
  rw [show zn (zMk [(0, 100)] [(0, L)] [] [] [] xs 1) = 1 from rfl, zmk_C (n1 := 2) rfl (fun _ _ => rfl) (fun _ _ => rfl)]
  refine zw_dup dL_law_3 rfl ?_
  refine zw_callI (y' := zmX5_init) dL_law_4 zlL_74 zmX5_init_ok c1_X5_init rfl rfl (Nat.le_of_ble_eq_true rfl) ⟨Nat.le_of_ble_eq_true rfl, Nat.le_of_ble_eq_true rfl⟩ ⟨Nat.le_of_ble_eq_true rfl, Nat.le_of_ble_eq_true rfl⟩ ?_
  intro v4 s4 q4
  obtain ⟨rfl, rfl⟩ := q4
  refine zw_astore_n dL_law_7 (by decide) rfl ?_
  refine zw_new dL_law_8 znL_75 zdef_6 (by decide) ⟨Nat.le_of_ble_eq_true rfl, Nat.le_of_ble_eq_true rfl⟩ ?_
  rw [show zn (zMk [(29, 100), (28, 100), (27, 100), (26, 100), (25, 100), (24, 101), (23, 101), (22, 101), (21, 4), (20, 100), (19, 100), (18, 100), (17, 0), (16, 100), (15, 100), (14, 100), (13, 100), (12, 100), (11, 100), (10, 100), (9, 100), (8, 3), (7, 100), (6, 100), (5, 103), (4, 100), (3, 100), (2, 2), (1, 5), (0, 100)] [(29, 400), (28, 400), (27, 400), (26, 400), (25, 400), (24, 400), (23, 400), (22, 400), (20, 12), (19, 12), (18, 12), (16, 2048), (15, 1024), (14, 401), (13, 400), (12, 400), (11, 400), (10, 400), (9, 400), (7, 4), (6, 4), (5, 80), (4, 5), (3, 5), (0, L)] [(1, 5, 3, 21), (21, 4, 7, 29), (21, 4, 6, 28), (21, 4, 5, 27), (21, 4, 4, 26), (21, 4, 3, 25), (21, 4, 2, 24), (21, 4, 1, 23), (21, 4, 0, 22), (1, 5, 2, 17), (17, 0, 2, 20), (17, 0, 1, 19), (17, 0, 0, 18), (1, 5, 1, 8), (8, 3, 7, 16), (8, 3, 6, 15), (8, 3, 5, 14), (8, 3, 4, 13), (8, 3, 3, 12), (8, 3, 2, 11), (8, 3, 1, 10), (8, 3, 0, 9), (1, 5, 0, 2), (2, 2, 4, 7), (2, 2, 3, 6), (2, 2, 2, 5), (2, 2, 1, 4), (2, 2, 0, 3)] [(21, 4, 11, (-1))] [] xs 30) = 30 from rfl, zmk_C (n1 := 31) rfl (fun _ _ => rfl) (fun _ _ => rfl)]
  refine zw_dup dL_law_11 rfl ?_
  refine zw_callI (y' := zmX6_init) dL_law_12 zlL_77 zmX6_init_ok c1_X6_init rfl rfl (Nat.le_of_ble_eq_true rfl) ⟨Nat.le_of_ble_eq_true rfl, Nat.le_of_ble_eq_true rfl⟩ ⟨Nat.le_of_ble_eq_true rfl, Nat.le_of_ble_eq_true rfl⟩ ?_
  intro v12 s12 q12
  obtain ⟨rfl, rfl⟩ := q12
  refine zw_astore_n dL_law_15 (by decide) rfl ?_
  refine zw_iconst (x := 1) dL_law_16 rfl ?_
  refine zw_newJ (t := 4) (N := 1) dL_law_17 ⟨by decide, by decide⟩ rfl zaw_4 rfl (Nat.le_of_ble_eq_true rfl) ⟨Nat.le_of_ble_eq_true rfl, Nat.le_of_ble_eq_true rfl⟩ ?_
  rw [show zn (zMk [(52, 101), (51, 104), (50, 104), (49, 100), (43, 105), (44, 104), (45, 104), (46, 104), (47, 104), (48, 104), (42, 100), (41, 100), (40, 100), (39, 100), (38, 100), (37, 100), (36, 100), (35, 100), (34, 100), (33, 100), (32, 100), (31, 100), (30, 6), (29, 100), (28, 100), (27, 100), (26, 100), (25, 100), (24, 101), (23, 101), (22, 101), (21, 4), (20, 100), (19, 100), (18, 100), (17, 0), (16, 100), (15, 100), (14, 100), (13, 100), (12, 100), (11, 100), (10, 100), (9, 100), (8, 3), (7, 100), (6, 100), (5, 103), (4, 100), (3, 100), (2, 2), (1, 5), (0, 100)] [(52, 400), (51, 7), (50, 2800), (49, 15000), (43, 5), (44, 2800), (45, 2800), (46, 2800), (47, 2800), (48, 2800), (42, 400), (41, 400), (40, 400), (39, 400), (38, 1024), (37, 400), (36, 36), (35, 720), (34, 5), (33, 4), (32, 4), (31, 5), (29, 400), (28, 400), (27, 400), (26, 400), (25, 400), (24, 400), (23, 400), (22, 400), (20, 12), (19, 12), (18, 12), (16, 2048), (15, 1024), (14, 401), (13, 400), (12, 400), (11, 400), (10, 400), (9, 400), (7, 4), (6, 4), (5, 80), (4, 5), (3, 5), (0, L)] [(30, 6, 23, 52), (30, 6, 22, 51), (30, 6, 21, 50), (30, 6, 20, 49), (30, 6, 18, 43), (30, 6, 17, 42), (30, 6, 16, 41), (30, 6, 15, 40), (30, 6, 14, 39), (30, 6, 13, 38), (30, 6, 12, 37), (30, 6, 9, 36), (30, 6, 7, 35), (30, 6, 6, 34), (30, 6, 5, 33), (30, 6, 4, 32), (30, 6, 2, 31), (1, 5, 3, 21), (21, 4, 7, 29), (21, 4, 6, 28), (21, 4, 5, 27), (21, 4, 4, 26), (21, 4, 3, 25), (21, 4, 2, 24), (21, 4, 1, 23), (21, 4, 0, 22), (1, 5, 2, 17), (17, 0, 2, 20), (17, 0, 1, 19), (17, 0, 0, 18), (1, 5, 1, 8), (8, 3, 7, 16), (8, 3, 6, 15), (8, 3, 5, 14), (8, 3, 4, 13), (8, 3, 3, 12), (8, 3, 2, 11), (8, 3, 1, 10), (8, 3, 0, 9), (1, 5, 0, 2), (2, 2, 4, 7), (2, 2, 3, 6), (2, 2, 2, 5), (2, 2, 1, 4), (2, 2, 0, 3)] [(21, 4, 11, (-1))] [(43, 44)] xs 53) = 53 from rfl, zmk_A (k1 := 104) (n1 := 54) rfl rfl (by decide) (fun _ => rfl)]
  refine zw_astore_n dL_law_19 (by decide) rfl ?_
  refine zw_iconst (x := 0) dL_law_20 rfl ?_
  refine zw_istore dL_law_21 (by decide) rfl ?_
  refine zw_iload dL_law_23 rfl ?_
  refine zw_aload_n dL_law_25 rfl ?_
  refine zw_alen (t := 0) dL_law_26 rfl (by decide) ?_
  refine zw_bipush (x := 6) dL_law_27 rfl ?_
  refine zw_isub dL_law_29 ?_
  refine zw_icmpgt (tgt := 1427) dL_law_30 (by decide) (fun _ => ?_) (fun c => ?_)
  · refine zw_iconst (x := 1) dL_law_1427 rfl ?_
    exact zw_iret dL_law_1428 rfl rfl rfl
  · have hL6 : L = 6 := by
      rcases Nat.lt_or_ge L 6 with hlt | hge
      · have hall : ∀ k : Nat, k < 6 → nI k - 6 < 0 := by decide +kernel
        exact absurd (hall L hlt) c
      · omega
    subst hL6
    refine zw_aload_n dL_law_33 rfl ?_
    refine zw_iload dL_law_34 rfl ?_
    refine zw_iaload dL_law_36 rfl (zin_of (show zL _ 0 = 6 from rfl) (by unfold vp_in; decide)) ?_
    refine zw_bipush (x := 31) dL_law_37 rfl ?_
    refine zw_iand dL_law_39 ?_
    refine zw_anyI (fun w => ?_)
    refine zw_room (uc' := 1000) (us' := 100000) (Nat.le_of_ble_eq_true rfl) (Nat.le_of_ble_eq_true rfl) ⟨Nat.le_of_ble_eq_true rfl, Nat.le_of_ble_eq_true rfl⟩ ?_
    rcases zsplit19 w with rfl | rfl | rfl | rfl | rfl | rfl | rfl | rfl | rfl | rfl | rfl | rfl | rfl | rfl | rfl | rfl | rfl | rfl | rfl | hw
    · exact zw_tableIn (off := 92) (tgt := 132) dL_law_40 (by decide) (by decide) (by decide) (by decide) (law_case0 hfl)
    · exact zw_tableIn (off := 148) (tgt := 188) dL_law_40 (by decide) (by decide) (by decide) (by decide) (law_case1 hfl)
    · exact zw_tableIn (off := 216) (tgt := 256) dL_law_40 (by decide) (by decide) (by decide) (by decide) (law_case2 hfl)
    · exact zw_tableIn (off := 308) (tgt := 348) dL_law_40 (by decide) (by decide) (by decide) (by decide) (law_case3 hfl)
    · exact zw_tableIn (off := 412) (tgt := 452) dL_law_40 (by decide) (by decide) (by decide) (by decide) (law_case4 hfl)
    · exact zw_tableIn (off := 516) (tgt := 556) dL_law_40 (by decide) (by decide) (by decide) (by decide) (law_case5 hfl)
    · exact zw_tableIn (off := 572) (tgt := 612) dL_law_40 (by decide) (by decide) (by decide) (by decide) (law_case6 hfl)
    · exact zw_tableIn (off := 616) (tgt := 656) dL_law_40 (by decide) (by decide) (by decide) (by decide) (law_case7 hfl)
    · exact zw_tableIn (off := 684) (tgt := 724) dL_law_40 (by decide) (by decide) (by decide) (by decide) (law_case8 hfl)
    · exact zw_tableIn (off := 764) (tgt := 804) dL_law_40 (by decide) (by decide) (by decide) (by decide) (law_case9 hfl)
    · exact zw_tableIn (off := 844) (tgt := 884) dL_law_40 (by decide) (by decide) (by decide) (by decide) (law_case10 hfl)
    · exact zw_tableIn (off := 919) (tgt := 959) dL_law_40 (by decide) (by decide) (by decide) (by decide) (law_case11 hfl)
    · exact zw_tableIn (off := 1003) (tgt := 1043) dL_law_40 (by decide) (by decide) (by decide) (by decide) (law_case12 hfl)
    · exact zw_tableIn (off := 1047) (tgt := 1087) dL_law_40 (by decide) (by decide) (by decide) (by decide) (law_case13 hfl)
    · exact zw_tableIn (off := 1115) (tgt := 1155) dL_law_40 (by decide) (by decide) (by decide) (by decide) (law_case14 hfl)
    · exact zw_tableIn (off := 1190) (tgt := 1230) dL_law_40 (by decide) (by decide) (by decide) (by decide) (law_case15 hfl)
    · exact zw_tableIn (off := 1246) (tgt := 1286) dL_law_40 (by decide) (by decide) (by decide) (by decide) (law_case16 hfl)
    · exact zw_tableIn (off := 1326) (tgt := 1366) dL_law_40 (by decide) (by decide) (by decide) (by decide) (law_case17 hfl)
    · exact zw_tableIn (off := 1367) (tgt := 1407) dL_law_40 (by decide) (by decide) (by decide) (by decide) (law_case18 hfl)
    · exact zw_tableOut (tgt := 1421) dL_law_40 hw (by decide) (law_tail rfl rfl rfl rfl rfl)
