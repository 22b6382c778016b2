/-! the law's facts: a fact chosen and told; facts as a whole -/
theorem aF_I {σ : zS} {n : Nat} {x a b y : Int32} (A j : Nat) : zI (zsF (zsI (zsI (zsI σ 18 n x) 19 n a) 20 n b) 0 3 17 y) A j = if A = 20 ∧ j = n then b else if A = 19 ∧ j = n then a else if A = 18 ∧ j = n then x else zI σ A j := by
  rw [zI_zsF, zI_zsI, zI_zsI, zI_zsI]
theorem aF_all {σ0 σ : zS} {k n so a b : Nat} (hu : zU σ0 σ) (h30 : 30 < zn σ0) (fb : fB σ (zn σ0) n) (ft : fT σ (zn σ0) n k) : zU σ0 (zsF (zsI (zsI (zsI σ 18 k (nI so)) 19 k (nI a)) 20 k (nI b)) 0 3 17 (nI (k + 1))) ∧ xFz (zsF (zsI (zsI (zsI σ 18 k (nI so)) 19 k (nI a)) 20 k (nI b)) 0 3 17 (nI (k + 1))) = nI (k + 1) ∧
    fB (zsF (zsI (zsI (zsI σ 18 k (nI so)) 19 k (nI a)) 20 k (nI b)) 0 3 17 (nI (k + 1))) (zn σ0) n ∧ fT (zsF (zsI (zsI (zsI σ 18 k (nI so)) 19 k (nI a)) 20 k (nI b)) 0 3 17 (nI (k + 1))) (zn σ0) n k ∧ fS (zsF (zsI (zsI (zsI σ 18 k (nI so)) 19 k (nI a)) 20 k (nI b)) 0 3 17 (nI (k + 1))) k so a b := by
  refine ⟨((((hu.I (Or.inr ⟨by decide, by decide⟩)).I (Or.inr ⟨by decide, by decide⟩)).I (Or.inr ⟨by decide, by decide⟩)).F), ?_, fb, fun j hj s hs => ?_, ?_, ?_, ?_⟩
  · unfold xFz
    rw [zF_zsF, if_pos ⟨rfl, rfl, rfl⟩]
  · have e : xHold (zsF (zsI (zsI (zsI σ 18 k (nI so)) 19 k (nI a)) 20 k (nI b)) 0 3 17 (nI (k + 1))) j (zI σ 9 s) = xHold σ j (zI σ 9 s) := xHold_le (fun i hi => by
      rw [aF_I, aF_I, aF_I, if_neg (by omega), if_neg (by omega), if_neg (by omega), if_neg (by omega), if_neg (by omega), if_neg (by omega), if_neg (by omega), if_neg (by omega), if_neg (by omega)]
      exact ⟨rfl, rfl, rfl⟩)
    rw [aF_I, if_neg (by omega), if_neg (by omega), if_neg (by omega), aF_I, if_neg (by omega), if_neg (by omega), if_neg (by omega), e]
    exact ft j hj s hs
  · rw [aF_I, if_neg (by omega), if_neg (by omega), if_pos ⟨rfl, rfl⟩]
  · rw [aF_I, if_neg (by omega), if_pos ⟨rfl, rfl⟩]
  · rw [aF_I, if_pos ⟨rfl, rfl⟩]
set_option maxHeartbeats 4000000 in
set_option maxRecDepth 100000 in
theorem lp_fa_0 {l : Launch} {σ0 : zS} {ls G : List Int32} {rows : List (List Int32)} {SS : Nat} {Q : Option Value → zS → Prop} (hw0 : zWF σ0) (cr0 : cR σ0 ls G) (wh0 : wH σ0 ls G rows) (lo : lsOk ls) (h1 : 1 ≤ ls.length) (h3 : ls.length ≤ 3) (h2 : G.length ≤ 2) (hn : rows.length ≤ 400) (hrok : ∀ r, r ∈ rows → rOk ls.length G.length r) (hkey : ∀ (s : Nat) (r : List Int32), rows[s]? = some r → zI σ0 9 s = enc ls.length G.length r) {k : Nat} {x : Int32} (hk : k < 8) (KN : ∀ σ : zS, zU σ0 σ → xFz σ = nI (k + 1) → fB σ (zn σ0) rows.length → fT σ (zn σ0) rows.length (k + 1) → zAW l zmL_facts { frames := 4, cells := 9, slots := SS, locals := 89 } 20 [(0, .ref 1), (1, .ref 30), (2, .ref 0), (3, .int 9), (4, .int (nI rows.length)), (5, .ref (zn σ0)), (6, .int (nI (k + 1)))] [] σ 9 SS Q) (σ : zS) (uc us : Nat) (hu : zU σ0 σ) (fz : xFz σ = nI k) (fb : fB σ (zn σ0) rows.length) (ft : fT σ (zn σ0) rows.length k) (hu1 : uc ≤ 9) (hu2 : us ≤ SS) : zAW l zmL_facts { frames := 4, cells := 9, slots := SS, locals := 89 } 107 [(0, .ref 1), (1, .ref 30), (2, .ref 0), (3, .int 9), (4, .int (nI rows.length)), (5, .ref (zn σ0)), (6, .int (nI k)), (7, .int (x)), (8, .int (nI 0))] [] σ uc us Q := by
  have cr := cr0.u hw0 hu
  have hr5 : ∀ r, r ∈ rows → r.length ≤ 5 := fun r hr => by rw [(hrok r hr).1]; omega
  have wh := wh0.u cr0.1 hr5 hu
  have h30 := wh0.2.1
  obtain ⟨wk, w30, ⟨la, gl, l30, il⟩, ⟨ga, gg, g30, ig⟩, sa, gsa, sa30, isa⟩ := wh
  refine zw_iload dL_facts_107 rfl ?_
  refine zw_ifne (tgt := 127) dL_facts_109 (by decide) (fun c109 => ?_) (fun c109 => ?_)
  · exact absurd c109 (by decide)
  · refine zw_iload dL_facts_112 rfl ?_
    refine zw_iconst (x := 3) dL_facts_114 rfl ?_
    refine zw_ishr dL_facts_115 ?_
    refine zw_aload_n dL_facts_116 rfl ?_
    refine zw_getR dL_facts_117 zfL_22 rfl wk (by decide) gl ?_
    refine zw_alen (t := 0) dL_facts_120 il.1 (by decide) ?_
    rw [il.2.2.2.1]
    refine zw_callS (y' := zmL_below) dL_facts_121 zlL_18 zmL_below_ok (c_L_below (n := ls.length) (by omega) (by omega)) rfl rfl (Nat.le_of_ble_eq_true rfl) ⟨Nat.le_of_ble_eq_true rfl, Nat.le_of_ble_eq_true rfl⟩ ⟨by show _ ≤ 9; omega, by show _ ≤ SS; omega⟩ ?_
    intro v121 s121 q121
    obtain ⟨⟨j121, h121, rfl⟩, z121⟩ := q121
    rw [z121]
    clear z121
    refine zw_goto (tgt := 157) dL_facts_124 (by decide) ?_
    refine zw_istore dL_facts_157 (by decide) rfl ?_
    obtain ⟨c, c1, c4, ec⟩ := lo j121 h121
    refine zw_iload dL_facts_159 rfl ?_
    refine zw_ifne (tgt := 181) dL_facts_161 (by decide) (fun c161 => ?_) (fun c161 => ?_)
    · exact absurd c161 (by decide)
    · refine zw_iload dL_facts_164 rfl ?_
      refine zw_iconst (x := 5) dL_facts_166 rfl ?_
      refine zw_ishr dL_facts_167 ?_
      refine zw_aload_n dL_facts_168 rfl ?_
      refine zw_getR dL_facts_169 zfL_22 rfl wk (by decide) gl ?_
      refine zw_iload dL_facts_172 rfl ?_
      refine zw_iaload dL_facts_174 il.1 (zin_of il.2.2.2.1 (vp_in_nI h121 (by omega))) ?_
      rw [nI_clamp (show j121 < 2 ^ 31 by omega), il.2.2.2.2 j121 _ ec]
      refine zw_callS (y' := zmL_below) dL_facts_175 zlL_18 zmL_below_ok (c_L_below (n := c) (by omega) (by omega)) rfl rfl (Nat.le_of_ble_eq_true rfl) ⟨Nat.le_of_ble_eq_true rfl, Nat.le_of_ble_eq_true rfl⟩ ⟨by show _ ≤ 9; omega, by show _ ≤ SS; omega⟩ ?_
      intro v175 s175 q175
      obtain ⟨⟨j175, h175, rfl⟩, z175⟩ := q175
      rw [z175]
      clear z175
      refine zw_goto (tgt := 217) dL_facts_178 (by decide) ?_
      refine zw_istore dL_facts_217 (by decide) rfl ?_
      refine zw_aload_n dL_facts_219 rfl ?_
      refine zw_iload dL_facts_220 rfl ?_
      refine zw_iload dL_facts_222 rfl ?_
      refine zw_iload dL_facts_224 rfl ?_
      refine zw_callV (y' := zmX5_addFact) dL_facts_226 zlL_69 zmX5_addFact_ok (xk_1 cr.1) (by decide) rfl (c_X5_addFact cr.1 (x := nI 0) (a := nI j121) (b := nI j175) (c_X5_canBeFact_0 cr.1 cr.2.1 (by omega) h121 ⟨show 0 ≤ nI j175 from nI_pos' (by omega), show nI j175 < zI σ 3 j121 by rw [cr.2.2.2.1 j121 _ ec]; exact nI_lt (by omega) (by omega)⟩) fz (by omega)) rfl rfl (Nat.le_of_ble_eq_true rfl) ⟨Nat.le_of_ble_eq_true rfl, Nat.le_of_ble_eq_true rfl⟩ ⟨by show _ ≤ 9; omega, by show _ ≤ SS; omega⟩ ?_
      intro v226 s226 q226
      obtain ⟨rfl, z226⟩ := q226
      obtain ⟨hu, fz, fb, ft, fs⟩ := aF_all (so := 0) (a := j121) (b := j175) hu h30 fb ft
      rw [← z226] at hu fz fb ft fs
      refine zw_iload dL_facts_229 rfl ?_
      refine zw_icmpeq (tgt := 236) dL_facts_231 (by decide) (fun c231 => ?_) (fun c231 => ?_)
      · refine zw_iconst (x := 0) dL_facts_236 rfl ?_
        refine zw_istore dL_facts_237 (by decide) rfl ?_
        refine zw_loc (lc' := [(0, .ref 1), (1, .ref 30), (2, .ref 0), (3, .int 9), (4, .int (nI rows.length)), (5, .ref (zn σ0)), (6, .int (nI k)), (7, .int (x)), (8, .int (nI 0)), (9, .int (nI j121)), (10, .int (nI j175)), (11, .int (nI 0))]) (zsub_cons rfl (zsub_cons rfl (zsub_cons rfl (zsub_cons rfl (zsub_cons rfl (zsub_cons rfl (zsub_cons rfl (zsub_cons rfl (zsub_cons rfl (zsub_cons rfl (zsub_cons rfl (zsub_cons rfl zsub_nil)))))))))))) ?_
        refine zw_room (uc' := 9) (us' := SS) (by omega) (by omega) ⟨Nat.le_refl _, Nat.le_refl _⟩ ?_
        exact lp_fi_0 hw0 cr0 wh0 lo h1 h3 h2 hn hrok hkey hk h121 9 SS KN rows.length 0 s226 (Nat.zero_add _) hu fz fb ft fs (fun s hs => absurd hs (Nat.not_lt_zero s))
      · exact absurd rfl c231
set_option maxHeartbeats 4000000 in
set_option maxRecDepth 100000 in
theorem lp_fa_1 {l : Launch} {σ0 : zS} {ls G : List Int32} {rows : List (List Int32)} {SS : Nat} {Q : Option Value → zS → Prop} (hw0 : zWF σ0) (cr0 : cR σ0 ls G) (wh0 : wH σ0 ls G rows) (lo : lsOk ls) (h1 : 1 ≤ ls.length) (h3 : ls.length ≤ 3) (h2 : G.length ≤ 2) (hn : rows.length ≤ 400) (hrok : ∀ r, r ∈ rows → rOk ls.length G.length r) (hkey : ∀ (s : Nat) (r : List Int32), rows[s]? = some r → zI σ0 9 s = enc ls.length G.length r) {k : Nat} {x : Int32} (hk : k < 8) (hV : 0 < G.length) (KN : ∀ σ : zS, zU σ0 σ → xFz σ = nI (k + 1) → fB σ (zn σ0) rows.length → fT σ (zn σ0) rows.length (k + 1) → zAW l zmL_facts { frames := 4, cells := 9, slots := SS, locals := 89 } 20 [(0, .ref 1), (1, .ref 30), (2, .ref 0), (3, .int 9), (4, .int (nI rows.length)), (5, .ref (zn σ0)), (6, .int (nI (k + 1)))] [] σ 9 SS Q) (σ : zS) (uc us : Nat) (hu : zU σ0 σ) (fz : xFz σ = nI k) (fb : fB σ (zn σ0) rows.length) (ft : fT σ (zn σ0) rows.length k) (hu1 : uc ≤ 9) (hu2 : us ≤ SS) : zAW l zmL_facts { frames := 4, cells := 9, slots := SS, locals := 89 } 107 [(0, .ref 1), (1, .ref 30), (2, .ref 0), (3, .int 9), (4, .int (nI rows.length)), (5, .ref (zn σ0)), (6, .int (nI k)), (7, .int (x)), (8, .int (nI 1))] [] σ uc us Q := by
  have cr := cr0.u hw0 hu
  have hr5 : ∀ r, r ∈ rows → r.length ≤ 5 := fun r hr => by rw [(hrok r hr).1]; omega
  have wh := wh0.u cr0.1 hr5 hu
  have h30 := wh0.2.1
  obtain ⟨wk, w30, ⟨la, gl, l30, il⟩, ⟨ga, gg, g30, ig⟩, sa, gsa, sa30, isa⟩ := wh
  refine zw_iload dL_facts_107 rfl ?_
  refine zw_ifne (tgt := 127) dL_facts_109 (by decide) (fun c109 => ?_) (fun c109 => ?_)
  · refine zw_iload dL_facts_127 rfl ?_
    refine zw_iconst (x := 3) dL_facts_129 rfl ?_
    refine zw_icmpge (tgt := 148) dL_facts_130 (by decide) (fun c130 => ?_) (fun c130 => ?_)
    · exact absurd c130 (by decide)
    · refine zw_iload dL_facts_133 rfl ?_
      refine zw_iconst (x := 3) dL_facts_135 rfl ?_
      refine zw_ishr dL_facts_136 ?_
      refine zw_aload_n dL_facts_137 rfl ?_
      refine zw_getR dL_facts_138 zfL_36 rfl wk (by decide) gg ?_
      refine zw_alen (t := 0) dL_facts_141 ig.1 (by decide) ?_
      rw [ig.2.2.2.1]
      refine zw_callS (y' := zmL_below) dL_facts_142 zlL_18 zmL_below_ok (c_L_below (n := G.length) (by omega) (by omega)) rfl rfl (Nat.le_of_ble_eq_true rfl) ⟨Nat.le_of_ble_eq_true rfl, Nat.le_of_ble_eq_true rfl⟩ ⟨by show _ ≤ 9; omega, by show _ ≤ SS; omega⟩ ?_
      intro v142 s142 q142
      obtain ⟨⟨j142, h142, rfl⟩, z142⟩ := q142
      rw [z142]
      clear z142
      refine zw_goto (tgt := 157) dL_facts_145 (by decide) ?_
      refine zw_istore dL_facts_157 (by decide) rfl ?_
      refine zw_iload dL_facts_159 rfl ?_
      refine zw_ifne (tgt := 181) dL_facts_161 (by decide) (fun c161 => ?_) (fun c161 => ?_)
      · refine zw_iload dL_facts_181 rfl ?_
        refine zw_iconst (x := 3) dL_facts_183 rfl ?_
        refine zw_icmpge (tgt := 198) dL_facts_184 (by decide) (fun c184 => ?_) (fun c184 => ?_)
        · exact absurd c184 (by decide)
        · refine zw_iload dL_facts_187 rfl ?_
          refine zw_iconst (x := 5) dL_facts_189 rfl ?_
          refine zw_ishr dL_facts_190 ?_
          refine zw_iconst (x := 4) dL_facts_191 rfl ?_
          refine zw_callS (y' := zmL_below) dL_facts_192 zlL_18 zmL_below_ok (c_L_below (n := 4) (by omega) (by omega)) rfl rfl (Nat.le_of_ble_eq_true rfl) ⟨Nat.le_of_ble_eq_true rfl, Nat.le_of_ble_eq_true rfl⟩ ⟨by show _ ≤ 9; omega, by show _ ≤ SS; omega⟩ ?_
          intro v192 s192 q192
          obtain ⟨⟨j192, h192, rfl⟩, z192⟩ := q192
          rw [z192]
          clear z192
          refine zw_goto (tgt := 217) dL_facts_195 (by decide) ?_
          refine zw_istore dL_facts_217 (by decide) rfl ?_
          refine zw_aload_n dL_facts_219 rfl ?_
          refine zw_iload dL_facts_220 rfl ?_
          refine zw_iload dL_facts_222 rfl ?_
          refine zw_iload dL_facts_224 rfl ?_
          refine zw_callV (y' := zmX5_addFact) dL_facts_226 zlL_69 zmX5_addFact_ok (xk_1 cr.1) (by decide) rfl (c_X5_addFact cr.1 (x := nI 1) (a := nI j142) (b := nI j192) (c_X5_canBeFact_1 cr.1 cr.2.2.1 ⟨show 0 ≤ nI j142 from nI_pos' (by omega), nI_lt (by omega) (by omega)⟩ ⟨show 0 ≤ nI j192 from nI_pos' (by omega), show nI j192 ≤ 9 from nI_le (b := 9) (by omega) (by decide)⟩) fz (by omega)) rfl rfl (Nat.le_of_ble_eq_true rfl) ⟨Nat.le_of_ble_eq_true rfl, Nat.le_of_ble_eq_true rfl⟩ ⟨by show _ ≤ 9; omega, by show _ ≤ SS; omega⟩ ?_
          intro v226 s226 q226
          obtain ⟨rfl, z226⟩ := q226
          obtain ⟨hu, fz, fb, ft, fs⟩ := aF_all (so := 1) (a := j142) (b := j192) hu h30 fb ft
          rw [← z226] at hu fz fb ft fs
          refine zw_iload dL_facts_229 rfl ?_
          refine zw_icmpeq (tgt := 236) dL_facts_231 (by decide) (fun c231 => ?_) (fun c231 => ?_)
          · refine zw_iconst (x := 0) dL_facts_236 rfl ?_
            refine zw_istore dL_facts_237 (by decide) rfl ?_
            refine zw_loc (lc' := [(0, .ref 1), (1, .ref 30), (2, .ref 0), (3, .int 9), (4, .int (nI rows.length)), (5, .ref (zn σ0)), (6, .int (nI k)), (7, .int (x)), (8, .int (nI 1)), (9, .int (nI j142)), (10, .int (nI j192)), (11, .int (nI 0))]) (zsub_cons rfl (zsub_cons rfl (zsub_cons rfl (zsub_cons rfl (zsub_cons rfl (zsub_cons rfl (zsub_cons rfl (zsub_cons rfl (zsub_cons rfl (zsub_cons rfl (zsub_cons rfl (zsub_cons rfl zsub_nil)))))))))))) ?_
            refine zw_room (uc' := 9) (us' := SS) (by omega) (by omega) ⟨Nat.le_refl _, Nat.le_refl _⟩ ?_
            exact lp_fi_1 hw0 cr0 wh0 lo h1 h3 h2 hn hrok hkey hk h142 9 SS KN rows.length 0 s226 (Nat.zero_add _) hu fz fb ft fs (fun s hs => absurd hs (Nat.not_lt_zero s))
          · exact absurd rfl c231
      · exact absurd c161 (by decide)
  · exact absurd c109 (by decide)
set_option maxHeartbeats 4000000 in
set_option maxRecDepth 100000 in
theorem lp_fa_2 {l : Launch} {σ0 : zS} {ls G : List Int32} {rows : List (List Int32)} {SS : Nat} {Q : Option Value → zS → Prop} (hw0 : zWF σ0) (cr0 : cR σ0 ls G) (wh0 : wH σ0 ls G rows) (lo : lsOk ls) (h1 : 1 ≤ ls.length) (h3 : ls.length ≤ 3) (h2 : G.length ≤ 2) (hn : rows.length ≤ 400) (hrok : ∀ r, r ∈ rows → rOk ls.length G.length r) (hkey : ∀ (s : Nat) (r : List Int32), rows[s]? = some r → zI σ0 9 s = enc ls.length G.length r) {k : Nat} {x : Int32} (hk : k < 8) (hV : 0 < G.length) (KN : ∀ σ : zS, zU σ0 σ → xFz σ = nI (k + 1) → fB σ (zn σ0) rows.length → fT σ (zn σ0) rows.length (k + 1) → zAW l zmL_facts { frames := 4, cells := 9, slots := SS, locals := 89 } 20 [(0, .ref 1), (1, .ref 30), (2, .ref 0), (3, .int 9), (4, .int (nI rows.length)), (5, .ref (zn σ0)), (6, .int (nI (k + 1)))] [] σ 9 SS Q) (σ : zS) (uc us : Nat) (hu : zU σ0 σ) (fz : xFz σ = nI k) (fb : fB σ (zn σ0) rows.length) (ft : fT σ (zn σ0) rows.length k) (hu1 : uc ≤ 9) (hu2 : us ≤ SS) : zAW l zmL_facts { frames := 4, cells := 9, slots := SS, locals := 89 } 107 [(0, .ref 1), (1, .ref 30), (2, .ref 0), (3, .int 9), (4, .int (nI rows.length)), (5, .ref (zn σ0)), (6, .int (nI k)), (7, .int (x)), (8, .int (nI 2))] [] σ uc us Q := by
  have cr := cr0.u hw0 hu
  have hr5 : ∀ r, r ∈ rows → r.length ≤ 5 := fun r hr => by rw [(hrok r hr).1]; omega
  have wh := wh0.u cr0.1 hr5 hu
  have h30 := wh0.2.1
  obtain ⟨wk, w30, ⟨la, gl, l30, il⟩, ⟨ga, gg, g30, ig⟩, sa, gsa, sa30, isa⟩ := wh
  refine zw_iload dL_facts_107 rfl ?_
  refine zw_ifne (tgt := 127) dL_facts_109 (by decide) (fun c109 => ?_) (fun c109 => ?_)
  · refine zw_iload dL_facts_127 rfl ?_
    refine zw_iconst (x := 3) dL_facts_129 rfl ?_
    refine zw_icmpge (tgt := 148) dL_facts_130 (by decide) (fun c130 => ?_) (fun c130 => ?_)
    · exact absurd c130 (by decide)
    · refine zw_iload dL_facts_133 rfl ?_
      refine zw_iconst (x := 3) dL_facts_135 rfl ?_
      refine zw_ishr dL_facts_136 ?_
      refine zw_aload_n dL_facts_137 rfl ?_
      refine zw_getR dL_facts_138 zfL_36 rfl wk (by decide) gg ?_
      refine zw_alen (t := 0) dL_facts_141 ig.1 (by decide) ?_
      rw [ig.2.2.2.1]
      refine zw_callS (y' := zmL_below) dL_facts_142 zlL_18 zmL_below_ok (c_L_below (n := G.length) (by omega) (by omega)) rfl rfl (Nat.le_of_ble_eq_true rfl) ⟨Nat.le_of_ble_eq_true rfl, Nat.le_of_ble_eq_true rfl⟩ ⟨by show _ ≤ 9; omega, by show _ ≤ SS; omega⟩ ?_
      intro v142 s142 q142
      obtain ⟨⟨j142, h142, rfl⟩, z142⟩ := q142
      rw [z142]
      clear z142
      refine zw_goto (tgt := 157) dL_facts_145 (by decide) ?_
      refine zw_istore dL_facts_157 (by decide) rfl ?_
      refine zw_iload dL_facts_159 rfl ?_
      refine zw_ifne (tgt := 181) dL_facts_161 (by decide) (fun c161 => ?_) (fun c161 => ?_)
      · refine zw_iload dL_facts_181 rfl ?_
        refine zw_iconst (x := 3) dL_facts_183 rfl ?_
        refine zw_icmpge (tgt := 198) dL_facts_184 (by decide) (fun c184 => ?_) (fun c184 => ?_)
        · exact absurd c184 (by decide)
        · refine zw_iload dL_facts_187 rfl ?_
          refine zw_iconst (x := 5) dL_facts_189 rfl ?_
          refine zw_ishr dL_facts_190 ?_
          refine zw_iconst (x := 4) dL_facts_191 rfl ?_
          refine zw_callS (y' := zmL_below) dL_facts_192 zlL_18 zmL_below_ok (c_L_below (n := 4) (by omega) (by omega)) rfl rfl (Nat.le_of_ble_eq_true rfl) ⟨Nat.le_of_ble_eq_true rfl, Nat.le_of_ble_eq_true rfl⟩ ⟨by show _ ≤ 9; omega, by show _ ≤ SS; omega⟩ ?_
          intro v192 s192 q192
          obtain ⟨⟨j192, h192, rfl⟩, z192⟩ := q192
          rw [z192]
          clear z192
          refine zw_goto (tgt := 217) dL_facts_195 (by decide) ?_
          refine zw_istore dL_facts_217 (by decide) rfl ?_
          refine zw_aload_n dL_facts_219 rfl ?_
          refine zw_iload dL_facts_220 rfl ?_
          refine zw_iload dL_facts_222 rfl ?_
          refine zw_iload dL_facts_224 rfl ?_
          refine zw_callV (y' := zmX5_addFact) dL_facts_226 zlL_69 zmX5_addFact_ok (xk_1 cr.1) (by decide) rfl (c_X5_addFact cr.1 (x := nI 2) (a := nI j142) (b := nI j192) (c_X5_canBeFact_2 cr.1 cr.2.2.1 ⟨show 0 ≤ nI j142 from nI_pos' (by omega), nI_lt (by omega) (by omega)⟩ ⟨show 0 ≤ nI j192 from nI_pos' (by omega), show nI j192 ≤ 9 from nI_le (b := 9) (by omega) (by decide)⟩) fz (by omega)) rfl rfl (Nat.le_of_ble_eq_true rfl) ⟨Nat.le_of_ble_eq_true rfl, Nat.le_of_ble_eq_true rfl⟩ ⟨by show _ ≤ 9; omega, by show _ ≤ SS; omega⟩ ?_
          intro v226 s226 q226
          obtain ⟨rfl, z226⟩ := q226
          obtain ⟨hu, fz, fb, ft, fs⟩ := aF_all (so := 2) (a := j142) (b := j192) hu h30 fb ft
          rw [← z226] at hu fz fb ft fs
          refine zw_iload dL_facts_229 rfl ?_
          refine zw_icmpeq (tgt := 236) dL_facts_231 (by decide) (fun c231 => ?_) (fun c231 => ?_)
          · refine zw_iconst (x := 0) dL_facts_236 rfl ?_
            refine zw_istore dL_facts_237 (by decide) rfl ?_
            refine zw_loc (lc' := [(0, .ref 1), (1, .ref 30), (2, .ref 0), (3, .int 9), (4, .int (nI rows.length)), (5, .ref (zn σ0)), (6, .int (nI k)), (7, .int (x)), (8, .int (nI 2)), (9, .int (nI j142)), (10, .int (nI j192)), (11, .int (nI 0))]) (zsub_cons rfl (zsub_cons rfl (zsub_cons rfl (zsub_cons rfl (zsub_cons rfl (zsub_cons rfl (zsub_cons rfl (zsub_cons rfl (zsub_cons rfl (zsub_cons rfl (zsub_cons rfl (zsub_cons rfl zsub_nil)))))))))))) ?_
            refine zw_room (uc' := 9) (us' := SS) (by omega) (by omega) ⟨Nat.le_refl _, Nat.le_refl _⟩ ?_
            exact lp_fi_2 hw0 cr0 wh0 lo h1 h3 h2 hn hrok hkey hk h142 9 SS KN rows.length 0 s226 (Nat.zero_add _) hu fz fb ft fs (fun s hs => absurd hs (Nat.not_lt_zero s))
          · exact absurd rfl c231
      · exact absurd c161 (by decide)
  · exact absurd c109 (by decide)
set_option maxHeartbeats 4000000 in
set_option maxRecDepth 100000 in
theorem lp_fa_3 {l : Launch} {σ0 : zS} {ls G : List Int32} {rows : List (List Int32)} {SS : Nat} {Q : Option Value → zS → Prop} (hw0 : zWF σ0) (cr0 : cR σ0 ls G) (wh0 : wH σ0 ls G rows) (lo : lsOk ls) (h1 : 1 ≤ ls.length) (h3 : ls.length ≤ 3) (h2 : G.length ≤ 2) (hn : rows.length ≤ 400) (hrok : ∀ r, r ∈ rows → rOk ls.length G.length r) (hkey : ∀ (s : Nat) (r : List Int32), rows[s]? = some r → zI σ0 9 s = enc ls.length G.length r) {k : Nat} {x : Int32} (hk : k < 8) (hk0 : 0 < k) (KN : ∀ σ : zS, zU σ0 σ → xFz σ = nI (k + 1) → fB σ (zn σ0) rows.length → fT σ (zn σ0) rows.length (k + 1) → zAW l zmL_facts { frames := 4, cells := 9, slots := SS, locals := 89 } 20 [(0, .ref 1), (1, .ref 30), (2, .ref 0), (3, .int 9), (4, .int (nI rows.length)), (5, .ref (zn σ0)), (6, .int (nI (k + 1)))] [] σ 9 SS Q) (σ : zS) (uc us : Nat) (hu : zU σ0 σ) (fz : xFz σ = nI k) (fb : fB σ (zn σ0) rows.length) (ft : fT σ (zn σ0) rows.length k) (hu1 : uc ≤ 9) (hu2 : us ≤ SS) : zAW l zmL_facts { frames := 4, cells := 9, slots := SS, locals := 89 } 107 [(0, .ref 1), (1, .ref 30), (2, .ref 0), (3, .int 9), (4, .int (nI rows.length)), (5, .ref (zn σ0)), (6, .int (nI k)), (7, .int (x)), (8, .int (nI 3))] [] σ uc us Q := by
  have cr := cr0.u hw0 hu
  have hr5 : ∀ r, r ∈ rows → r.length ≤ 5 := fun r hr => by rw [(hrok r hr).1]; omega
  have wh := wh0.u cr0.1 hr5 hu
  have h30 := wh0.2.1
  obtain ⟨wk, w30, ⟨la, gl, l30, il⟩, ⟨ga, gg, g30, ig⟩, sa, gsa, sa30, isa⟩ := wh
  refine zw_iload dL_facts_107 rfl ?_
  refine zw_ifne (tgt := 127) dL_facts_109 (by decide) (fun c109 => ?_) (fun c109 => ?_)
  · refine zw_iload dL_facts_127 rfl ?_
    refine zw_iconst (x := 3) dL_facts_129 rfl ?_
    refine zw_icmpge (tgt := 148) dL_facts_130 (by decide) (fun c130 => ?_) (fun c130 => ?_)
    · refine zw_iload dL_facts_148 rfl ?_
      refine zw_iconst (x := 3) dL_facts_150 rfl ?_
      refine zw_ishr dL_facts_151 ?_
      refine zw_iload dL_facts_152 rfl ?_
      refine zw_callS (y' := zmL_below) dL_facts_154 zlL_18 zmL_below_ok (c_L_below (n := k) (by omega) (by omega)) rfl rfl (Nat.le_of_ble_eq_true rfl) ⟨Nat.le_of_ble_eq_true rfl, Nat.le_of_ble_eq_true rfl⟩ ⟨by show _ ≤ 9; omega, by show _ ≤ SS; omega⟩ ?_
      intro v154 s154 q154
      obtain ⟨⟨j154, h154, rfl⟩, z154⟩ := q154
      rw [z154]
      clear z154
      refine zw_istore dL_facts_157 (by decide) rfl ?_
      refine zw_iload dL_facts_159 rfl ?_
      refine zw_ifne (tgt := 181) dL_facts_161 (by decide) (fun c161 => ?_) (fun c161 => ?_)
      · refine zw_iload dL_facts_181 rfl ?_
        refine zw_iconst (x := 3) dL_facts_183 rfl ?_
        refine zw_icmpge (tgt := 198) dL_facts_184 (by decide) (fun c184 => ?_) (fun c184 => ?_)
        · refine zw_iload dL_facts_198 rfl ?_
          refine zw_iconst (x := 3) dL_facts_200 rfl ?_
          refine zw_icmpne (tgt := 208) dL_facts_201 (by decide) (fun c201 => ?_) (fun c201 => ?_)
          · exact absurd c201 (by decide)
          · refine zw_iconst (x := 0) dL_facts_204 rfl ?_
            refine zw_goto (tgt := 217) dL_facts_205 (by decide) ?_
            refine zw_istore dL_facts_217 (by decide) rfl ?_
            refine zw_aload_n dL_facts_219 rfl ?_
            refine zw_iload dL_facts_220 rfl ?_
            refine zw_iload dL_facts_222 rfl ?_
            refine zw_iload dL_facts_224 rfl ?_
            refine zw_callV (y' := zmX5_addFact) dL_facts_226 zlL_69 zmX5_addFact_ok (xk_1 cr.1) (by decide) rfl (c_X5_addFact cr.1 (x := nI 3) (a := nI j154) (b := nI 0) (c_X5_canBeFact_3 cr.1 fz ⟨show 0 ≤ nI j154 from nI_pos' (by omega), nI_lt (by omega) (by omega)⟩) fz (by omega)) rfl rfl (Nat.le_of_ble_eq_true rfl) ⟨Nat.le_of_ble_eq_true rfl, Nat.le_of_ble_eq_true rfl⟩ ⟨by show _ ≤ 9; omega, by show _ ≤ SS; omega⟩ ?_
            intro v226 s226 q226
            obtain ⟨rfl, z226⟩ := q226
            obtain ⟨hu, fz, fb, ft, fs⟩ := aF_all (so := 3) (a := j154) (b := 0) hu h30 fb ft
            rw [← z226] at hu fz fb ft fs
            refine zw_iload dL_facts_229 rfl ?_
            refine zw_icmpeq (tgt := 236) dL_facts_231 (by decide) (fun c231 => ?_) (fun c231 => ?_)
            · refine zw_iconst (x := 0) dL_facts_236 rfl ?_
              refine zw_istore dL_facts_237 (by decide) rfl ?_
              refine zw_loc (lc' := [(0, .ref 1), (1, .ref 30), (2, .ref 0), (3, .int 9), (4, .int (nI rows.length)), (5, .ref (zn σ0)), (6, .int (nI k)), (7, .int (x)), (8, .int (nI 3)), (9, .int (nI j154)), (10, .int (nI 0)), (11, .int (nI 0))]) (zsub_cons rfl (zsub_cons rfl (zsub_cons rfl (zsub_cons rfl (zsub_cons rfl (zsub_cons rfl (zsub_cons rfl (zsub_cons rfl (zsub_cons rfl (zsub_cons rfl (zsub_cons rfl (zsub_cons rfl zsub_nil)))))))))))) ?_
              refine zw_room (uc' := 9) (us' := SS) (by omega) (by omega) ⟨Nat.le_refl _, Nat.le_refl _⟩ ?_
              exact lp_fi_3 hw0 cr0 wh0 lo h1 h3 h2 hn hrok hkey hk h154 9 SS KN rows.length 0 s226 (Nat.zero_add _) hu fz fb ft fs (fun s hs => absurd hs (Nat.not_lt_zero s))
            · exact absurd rfl c231
        · exact absurd c184 (by decide)
      · exact absurd c161 (by decide)
    · exact absurd c130 (by decide)
  · exact absurd c109 (by decide)
set_option maxHeartbeats 4000000 in
set_option maxRecDepth 100000 in
theorem lp_fa_4 {l : Launch} {σ0 : zS} {ls G : List Int32} {rows : List (List Int32)} {SS : Nat} {Q : Option Value → zS → Prop} (hw0 : zWF σ0) (cr0 : cR σ0 ls G) (wh0 : wH σ0 ls G rows) (lo : lsOk ls) (h1 : 1 ≤ ls.length) (h3 : ls.length ≤ 3) (h2 : G.length ≤ 2) (hn : rows.length ≤ 400) (hrok : ∀ r, r ∈ rows → rOk ls.length G.length r) (hkey : ∀ (s : Nat) (r : List Int32), rows[s]? = some r → zI σ0 9 s = enc ls.length G.length r) {k : Nat} {x : Int32} (hk : k < 8) (hk0 : 0 < k) (KN : ∀ σ : zS, zU σ0 σ → xFz σ = nI (k + 1) → fB σ (zn σ0) rows.length → fT σ (zn σ0) rows.length (k + 1) → zAW l zmL_facts { frames := 4, cells := 9, slots := SS, locals := 89 } 20 [(0, .ref 1), (1, .ref 30), (2, .ref 0), (3, .int 9), (4, .int (nI rows.length)), (5, .ref (zn σ0)), (6, .int (nI (k + 1)))] [] σ 9 SS Q) (σ : zS) (uc us : Nat) (hu : zU σ0 σ) (fz : xFz σ = nI k) (fb : fB σ (zn σ0) rows.length) (ft : fT σ (zn σ0) rows.length k) (hu1 : uc ≤ 9) (hu2 : us ≤ SS) : zAW l zmL_facts { frames := 4, cells := 9, slots := SS, locals := 89 } 107 [(0, .ref 1), (1, .ref 30), (2, .ref 0), (3, .int 9), (4, .int (nI rows.length)), (5, .ref (zn σ0)), (6, .int (nI k)), (7, .int (x)), (8, .int (nI 4))] [] σ uc us Q := by
  have cr := cr0.u hw0 hu
  have hr5 : ∀ r, r ∈ rows → r.length ≤ 5 := fun r hr => by rw [(hrok r hr).1]; omega
  have wh := wh0.u cr0.1 hr5 hu
  have h30 := wh0.2.1
  obtain ⟨wk, w30, ⟨la, gl, l30, il⟩, ⟨ga, gg, g30, ig⟩, sa, gsa, sa30, isa⟩ := wh
  refine zw_iload dL_facts_107 rfl ?_
  refine zw_ifne (tgt := 127) dL_facts_109 (by decide) (fun c109 => ?_) (fun c109 => ?_)
  · refine zw_iload dL_facts_127 rfl ?_
    refine zw_iconst (x := 3) dL_facts_129 rfl ?_
    refine zw_icmpge (tgt := 148) dL_facts_130 (by decide) (fun c130 => ?_) (fun c130 => ?_)
    · refine zw_iload dL_facts_148 rfl ?_
      refine zw_iconst (x := 3) dL_facts_150 rfl ?_
      refine zw_ishr dL_facts_151 ?_
      refine zw_iload dL_facts_152 rfl ?_
      refine zw_callS (y' := zmL_below) dL_facts_154 zlL_18 zmL_below_ok (c_L_below (n := k) (by omega) (by omega)) rfl rfl (Nat.le_of_ble_eq_true rfl) ⟨Nat.le_of_ble_eq_true rfl, Nat.le_of_ble_eq_true rfl⟩ ⟨by show _ ≤ 9; omega, by show _ ≤ SS; omega⟩ ?_
      intro v154 s154 q154
      obtain ⟨⟨j154, h154, rfl⟩, z154⟩ := q154
      rw [z154]
      clear z154
      refine zw_istore dL_facts_157 (by decide) rfl ?_
      refine zw_iload dL_facts_159 rfl ?_
      refine zw_ifne (tgt := 181) dL_facts_161 (by decide) (fun c161 => ?_) (fun c161 => ?_)
      · refine zw_iload dL_facts_181 rfl ?_
        refine zw_iconst (x := 3) dL_facts_183 rfl ?_
        refine zw_icmpge (tgt := 198) dL_facts_184 (by decide) (fun c184 => ?_) (fun c184 => ?_)
        · refine zw_iload dL_facts_198 rfl ?_
          refine zw_iconst (x := 3) dL_facts_200 rfl ?_
          refine zw_icmpne (tgt := 208) dL_facts_201 (by decide) (fun c201 => ?_) (fun c201 => ?_)
          · refine zw_iload dL_facts_208 rfl ?_
            refine zw_iconst (x := 5) dL_facts_210 rfl ?_
            refine zw_ishr dL_facts_211 ?_
            refine zw_iload dL_facts_212 rfl ?_
            refine zw_callS (y' := zmL_below) dL_facts_214 zlL_18 zmL_below_ok (c_L_below (n := k) (by omega) (by omega)) rfl rfl (Nat.le_of_ble_eq_true rfl) ⟨Nat.le_of_ble_eq_true rfl, Nat.le_of_ble_eq_true rfl⟩ ⟨by show _ ≤ 9; omega, by show _ ≤ SS; omega⟩ ?_
            intro v214 s214 q214
            obtain ⟨⟨j214, h214, rfl⟩, z214⟩ := q214
            rw [z214]
            clear z214
            refine zw_istore dL_facts_217 (by decide) rfl ?_
            refine zw_aload_n dL_facts_219 rfl ?_
            refine zw_iload dL_facts_220 rfl ?_
            refine zw_iload dL_facts_222 rfl ?_
            refine zw_iload dL_facts_224 rfl ?_
            refine zw_callV (y' := zmX5_addFact) dL_facts_226 zlL_69 zmX5_addFact_ok (xk_1 cr.1) (by decide) rfl (c_X5_addFact cr.1 (x := nI 4) (a := nI j154) (b := nI j214) (c_X5_canBeFact_4 cr.1 fz ⟨show 0 ≤ nI j154 from nI_pos' (by omega), nI_lt (by omega) (by omega)⟩ ⟨show 0 ≤ nI j214 from nI_pos' (by omega), nI_lt (by omega) (by omega)⟩) fz (by omega)) rfl rfl (Nat.le_of_ble_eq_true rfl) ⟨Nat.le_of_ble_eq_true rfl, Nat.le_of_ble_eq_true rfl⟩ ⟨by show _ ≤ 9; omega, by show _ ≤ SS; omega⟩ ?_
            intro v226 s226 q226
            obtain ⟨rfl, z226⟩ := q226
            obtain ⟨hu, fz, fb, ft, fs⟩ := aF_all (so := 4) (a := j154) (b := j214) hu h30 fb ft
            rw [← z226] at hu fz fb ft fs
            refine zw_iload dL_facts_229 rfl ?_
            refine zw_icmpeq (tgt := 236) dL_facts_231 (by decide) (fun c231 => ?_) (fun c231 => ?_)
            · refine zw_iconst (x := 0) dL_facts_236 rfl ?_
              refine zw_istore dL_facts_237 (by decide) rfl ?_
              refine zw_loc (lc' := [(0, .ref 1), (1, .ref 30), (2, .ref 0), (3, .int 9), (4, .int (nI rows.length)), (5, .ref (zn σ0)), (6, .int (nI k)), (7, .int (x)), (8, .int (nI 4)), (9, .int (nI j154)), (10, .int (nI j214)), (11, .int (nI 0))]) (zsub_cons rfl (zsub_cons rfl (zsub_cons rfl (zsub_cons rfl (zsub_cons rfl (zsub_cons rfl (zsub_cons rfl (zsub_cons rfl (zsub_cons rfl (zsub_cons rfl (zsub_cons rfl (zsub_cons rfl zsub_nil)))))))))))) ?_
              refine zw_room (uc' := 9) (us' := SS) (by omega) (by omega) ⟨Nat.le_refl _, Nat.le_refl _⟩ ?_
              exact lp_fi_4 hw0 cr0 wh0 lo h1 h3 h2 hn hrok hkey hk ⟨h154, h214⟩ 9 SS KN rows.length 0 s226 (Nat.zero_add _) hu fz fb ft fs (fun s hs => absurd hs (Nat.not_lt_zero s))
            · exact absurd rfl c231
          · exact absurd c201 (by decide)
        · exact absurd c184 (by decide)
      · exact absurd c161 (by decide)
    · exact absurd c130 (by decide)
  · exact absurd c109 (by decide)
set_option maxHeartbeats 4000000 in
set_option maxRecDepth 100000 in
theorem lp_fa_5 {l : Launch} {σ0 : zS} {ls G : List Int32} {rows : List (List Int32)} {SS : Nat} {Q : Option Value → zS → Prop} (hw0 : zWF σ0) (cr0 : cR σ0 ls G) (wh0 : wH σ0 ls G rows) (lo : lsOk ls) (h1 : 1 ≤ ls.length) (h3 : ls.length ≤ 3) (h2 : G.length ≤ 2) (hn : rows.length ≤ 400) (hrok : ∀ r, r ∈ rows → rOk ls.length G.length r) (hkey : ∀ (s : Nat) (r : List Int32), rows[s]? = some r → zI σ0 9 s = enc ls.length G.length r) {k : Nat} {x : Int32} (hk : k < 8) (hk0 : 0 < k) (KN : ∀ σ : zS, zU σ0 σ → xFz σ = nI (k + 1) → fB σ (zn σ0) rows.length → fT σ (zn σ0) rows.length (k + 1) → zAW l zmL_facts { frames := 4, cells := 9, slots := SS, locals := 89 } 20 [(0, .ref 1), (1, .ref 30), (2, .ref 0), (3, .int 9), (4, .int (nI rows.length)), (5, .ref (zn σ0)), (6, .int (nI (k + 1)))] [] σ 9 SS Q) (σ : zS) (uc us : Nat) (hu : zU σ0 σ) (fz : xFz σ = nI k) (fb : fB σ (zn σ0) rows.length) (ft : fT σ (zn σ0) rows.length k) (hu1 : uc ≤ 9) (hu2 : us ≤ SS) : zAW l zmL_facts { frames := 4, cells := 9, slots := SS, locals := 89 } 107 [(0, .ref 1), (1, .ref 30), (2, .ref 0), (3, .int 9), (4, .int (nI rows.length)), (5, .ref (zn σ0)), (6, .int (nI k)), (7, .int (x)), (8, .int (nI 5))] [] σ uc us Q := by
  have cr := cr0.u hw0 hu
  have hr5 : ∀ r, r ∈ rows → r.length ≤ 5 := fun r hr => by rw [(hrok r hr).1]; omega
  have wh := wh0.u cr0.1 hr5 hu
  have h30 := wh0.2.1
  obtain ⟨wk, w30, ⟨la, gl, l30, il⟩, ⟨ga, gg, g30, ig⟩, sa, gsa, sa30, isa⟩ := wh
  refine zw_iload dL_facts_107 rfl ?_
  refine zw_ifne (tgt := 127) dL_facts_109 (by decide) (fun c109 => ?_) (fun c109 => ?_)
  · refine zw_iload dL_facts_127 rfl ?_
    refine zw_iconst (x := 3) dL_facts_129 rfl ?_
    refine zw_icmpge (tgt := 148) dL_facts_130 (by decide) (fun c130 => ?_) (fun c130 => ?_)
    · refine zw_iload dL_facts_148 rfl ?_
      refine zw_iconst (x := 3) dL_facts_150 rfl ?_
      refine zw_ishr dL_facts_151 ?_
      refine zw_iload dL_facts_152 rfl ?_
      refine zw_callS (y' := zmL_below) dL_facts_154 zlL_18 zmL_below_ok (c_L_below (n := k) (by omega) (by omega)) rfl rfl (Nat.le_of_ble_eq_true rfl) ⟨Nat.le_of_ble_eq_true rfl, Nat.le_of_ble_eq_true rfl⟩ ⟨by show _ ≤ 9; omega, by show _ ≤ SS; omega⟩ ?_
      intro v154 s154 q154
      obtain ⟨⟨j154, h154, rfl⟩, z154⟩ := q154
      rw [z154]
      clear z154
      refine zw_istore dL_facts_157 (by decide) rfl ?_
      refine zw_iload dL_facts_159 rfl ?_
      refine zw_ifne (tgt := 181) dL_facts_161 (by decide) (fun c161 => ?_) (fun c161 => ?_)
      · refine zw_iload dL_facts_181 rfl ?_
        refine zw_iconst (x := 3) dL_facts_183 rfl ?_
        refine zw_icmpge (tgt := 198) dL_facts_184 (by decide) (fun c184 => ?_) (fun c184 => ?_)
        · refine zw_iload dL_facts_198 rfl ?_
          refine zw_iconst (x := 3) dL_facts_200 rfl ?_
          refine zw_icmpne (tgt := 208) dL_facts_201 (by decide) (fun c201 => ?_) (fun c201 => ?_)
          · refine zw_iload dL_facts_208 rfl ?_
            refine zw_iconst (x := 5) dL_facts_210 rfl ?_
            refine zw_ishr dL_facts_211 ?_
            refine zw_iload dL_facts_212 rfl ?_
            refine zw_callS (y' := zmL_below) dL_facts_214 zlL_18 zmL_below_ok (c_L_below (n := k) (by omega) (by omega)) rfl rfl (Nat.le_of_ble_eq_true rfl) ⟨Nat.le_of_ble_eq_true rfl, Nat.le_of_ble_eq_true rfl⟩ ⟨by show _ ≤ 9; omega, by show _ ≤ SS; omega⟩ ?_
            intro v214 s214 q214
            obtain ⟨⟨j214, h214, rfl⟩, z214⟩ := q214
            rw [z214]
            clear z214
            refine zw_istore dL_facts_217 (by decide) rfl ?_
            refine zw_aload_n dL_facts_219 rfl ?_
            refine zw_iload dL_facts_220 rfl ?_
            refine zw_iload dL_facts_222 rfl ?_
            refine zw_iload dL_facts_224 rfl ?_
            refine zw_callV (y' := zmX5_addFact) dL_facts_226 zlL_69 zmX5_addFact_ok (xk_1 cr.1) (by decide) rfl (c_X5_addFact cr.1 (x := nI 5) (a := nI j154) (b := nI j214) (c_X5_canBeFact_5 cr.1 fz ⟨show 0 ≤ nI j154 from nI_pos' (by omega), nI_lt (by omega) (by omega)⟩ ⟨show 0 ≤ nI j214 from nI_pos' (by omega), nI_lt (by omega) (by omega)⟩) fz (by omega)) rfl rfl (Nat.le_of_ble_eq_true rfl) ⟨Nat.le_of_ble_eq_true rfl, Nat.le_of_ble_eq_true rfl⟩ ⟨by show _ ≤ 9; omega, by show _ ≤ SS; omega⟩ ?_
            intro v226 s226 q226
            obtain ⟨rfl, z226⟩ := q226
            obtain ⟨hu, fz, fb, ft, fs⟩ := aF_all (so := 5) (a := j154) (b := j214) hu h30 fb ft
            rw [← z226] at hu fz fb ft fs
            refine zw_iload dL_facts_229 rfl ?_
            refine zw_icmpeq (tgt := 236) dL_facts_231 (by decide) (fun c231 => ?_) (fun c231 => ?_)
            · refine zw_iconst (x := 0) dL_facts_236 rfl ?_
              refine zw_istore dL_facts_237 (by decide) rfl ?_
              refine zw_loc (lc' := [(0, .ref 1), (1, .ref 30), (2, .ref 0), (3, .int 9), (4, .int (nI rows.length)), (5, .ref (zn σ0)), (6, .int (nI k)), (7, .int (x)), (8, .int (nI 5)), (9, .int (nI j154)), (10, .int (nI j214)), (11, .int (nI 0))]) (zsub_cons rfl (zsub_cons rfl (zsub_cons rfl (zsub_cons rfl (zsub_cons rfl (zsub_cons rfl (zsub_cons rfl (zsub_cons rfl (zsub_cons rfl (zsub_cons rfl (zsub_cons rfl (zsub_cons rfl zsub_nil)))))))))))) ?_
              refine zw_room (uc' := 9) (us' := SS) (by omega) (by omega) ⟨Nat.le_refl _, Nat.le_refl _⟩ ?_
              exact lp_fi_5 hw0 cr0 wh0 lo h1 h3 h2 hn hrok hkey hk ⟨h154, h214⟩ 9 SS KN rows.length 0 s226 (Nat.zero_add _) hu fz fb ft fs (fun s hs => absurd hs (Nat.not_lt_zero s))
            · exact absurd rfl c231
          · exact absurd c201 (by decide)
        · exact absurd c184 (by decide)
      · exact absurd c161 (by decide)
    · exact absurd c130 (by decide)
  · exact absurd c109 (by decide)
set_option maxHeartbeats 4000000 in
set_option maxRecDepth 100000 in
theorem lp_f82 {l : Launch} {σ0 : zS} {ls G : List Int32} {rows : List (List Int32)} {SS : Nat} {Q : Option Value → zS → Prop} (hw0 : zWF σ0) (cr0 : cR σ0 ls G) (wh0 : wH σ0 ls G rows) (lo : lsOk ls) (h1 : 1 ≤ ls.length) (h3 : ls.length ≤ 3) (h2 : G.length ≤ 2) (hn : rows.length ≤ 400) (hrok : ∀ r, r ∈ rows → rOk ls.length G.length r) (hkey : ∀ (s : Nat) (r : List Int32), rows[s]? = some r → zI σ0 9 s = enc ls.length G.length r) {k : Nat} {x : Int32} (hk : k < 8) (σ : zS) (uc us : Nat) (hu : zU σ0 σ) (K107 : ∀ so : Nat, so < 6 → (so = 1 ∨ so = 2 → 0 < G.length) → (3 ≤ so → 0 < k) → zAW l zmL_facts { frames := 4, cells := 9, slots := SS, locals := 89 } 107 [(0, .ref 1), (1, .ref 30), (2, .ref 0), (3, .int 9), (4, .int (nI rows.length)), (5, .ref (zn σ0)), (6, .int (nI k)), (7, .int (x)), (8, .int (nI so))] [] σ uc us Q) (so : Nat) (s1 : so < 6) (s2 : k = 0 → so = 0) (s3 : k < 3 → so < 3) : zAW l zmL_facts { frames := 4, cells := 9, slots := SS, locals := 89 } 82 [(0, .ref 1), (1, .ref 30), (2, .ref 0), (3, .int 9), (4, .int (nI rows.length)), (5, .ref (zn σ0)), (6, .int (nI k)), (7, .int (x))] [.int (nI so)] σ uc us Q := by
  have cr := cr0.u hw0 hu
  have hr5 : ∀ r, r ∈ rows → r.length ≤ 5 := fun r hr => by rw [(hrok r hr).1]; omega
  have wh := wh0.u cr0.1 hr5 hu
  have h30 := wh0.2.1
  obtain ⟨wk, w30, ⟨la, gl, l30, il⟩, ⟨ga, gg, g30, ig⟩, sa, gsa, sa30, isa⟩ := wh
  refine zw_istore dL_facts_82 (by decide) rfl ?_
  refine zw_aload_n dL_facts_84 rfl ?_
  refine zw_getR dL_facts_85 zfL_36 rfl wk (by decide) gg ?_
  refine zw_alen (t := 0) dL_facts_88 ig.1 (by decide) ?_
  rw [ig.2.2.2.1]
  refine zw_ifne (tgt := 107) dL_facts_89 (by decide) (fun c89 => ?_) (fun c89 => ?_)
  · exact zw_loc (lc' := [(0, .ref 1), (1, .ref 30), (2, .ref 0), (3, .int 9), (4, .int (nI rows.length)), (5, .ref (zn σ0)), (6, .int (nI k)), (7, .int (x)), (8, .int (nI so))]) (zsub_cons rfl (zsub_cons rfl (zsub_cons rfl (zsub_cons rfl (zsub_cons rfl (zsub_cons rfl (zsub_cons rfl (zsub_cons rfl (zsub_cons rfl zsub_nil))))))))) (K107 so s1 (fun _ => Nat.pos_of_ne_zero (fun q => c89 (by rw [q]; rfl))) (fun q => Nat.pos_of_ne_zero (fun z => by have := s2 z; omega)))
  · refine zw_iload dL_facts_92 rfl ?_
    refine zw_iconst (x := 1) dL_facts_94 rfl ?_
    refine zw_icmpeq (tgt := 104) dL_facts_95 (by decide) (fun c95 => ?_) (fun c95 => ?_)
    · refine zw_iconst (x := 0) dL_facts_104 rfl ?_
      refine zw_istore dL_facts_105 (by decide) rfl ?_
      exact zw_loc (lc' := [(0, .ref 1), (1, .ref 30), (2, .ref 0), (3, .int 9), (4, .int (nI rows.length)), (5, .ref (zn σ0)), (6, .int (nI k)), (7, .int (x)), (8, .int (nI 0))]) (zsub_cons rfl (zsub_cons rfl (zsub_cons rfl (zsub_cons rfl (zsub_cons rfl (zsub_cons rfl (zsub_cons rfl (zsub_cons rfl (zsub_cons rfl zsub_nil))))))))) (K107 0 (by decide) (fun q => by omega) (fun q => by omega))
    · refine zw_iload dL_facts_98 rfl ?_
      refine zw_iconst (x := 2) dL_facts_100 rfl ?_
      refine zw_icmpne (tgt := 107) dL_facts_101 (by decide) (fun c101 => ?_) (fun c101 => ?_)
      · exact zw_loc (lc' := [(0, .ref 1), (1, .ref 30), (2, .ref 0), (3, .int 9), (4, .int (nI rows.length)), (5, .ref (zn σ0)), (6, .int (nI k)), (7, .int (x)), (8, .int (nI so))]) (zsub_cons rfl (zsub_cons rfl (zsub_cons rfl (zsub_cons rfl (zsub_cons rfl (zsub_cons rfl (zsub_cons rfl (zsub_cons rfl (zsub_cons rfl zsub_nil))))))))) (K107 so s1 (fun q => by
          rcases q with q | q
          · exact absurd (by rw [q]; rfl) c95
          · exact absurd (by rw [q]; rfl) c101) (fun q => Nat.pos_of_ne_zero (fun z => by have := s2 z; omega)))
      · refine zw_iconst (x := 0) dL_facts_104 rfl ?_
        refine zw_istore dL_facts_105 (by decide) rfl ?_
        exact zw_loc (lc' := [(0, .ref 1), (1, .ref 30), (2, .ref 0), (3, .int 9), (4, .int (nI rows.length)), (5, .ref (zn σ0)), (6, .int (nI k)), (7, .int (x)), (8, .int (nI 0))]) (zsub_cons rfl (zsub_cons rfl (zsub_cons rfl (zsub_cons rfl (zsub_cons rfl (zsub_cons rfl (zsub_cons rfl (zsub_cons rfl (zsub_cons rfl zsub_nil))))))))) (K107 0 (by decide) (fun q => by omega) (fun q => by omega))
set_option maxHeartbeats 4000000 in
set_option maxRecDepth 100000 in
theorem lp_f {l : Launch} {σ0 : zS} {ls G : List Int32} {rows : List (List Int32)} {SS : Nat} {Q : Option Value → zS → Prop} (hw0 : zWF σ0) (cr0 : cR σ0 ls G) (wh0 : wH σ0 ls G rows) (lo : lsOk ls) (h1 : 1 ≤ ls.length) (h3 : ls.length ≤ 3) (h2 : G.length ≤ 2) (hn : rows.length ≤ 400) (hrok : ∀ r, r ∈ rows → rOk ls.length G.length r) (hkey : ∀ (s : Nat) (r : List Int32), rows[s]? = some r → zI σ0 9 s = enc ls.length G.length r) (KF : ∀ σ : zS, zU σ0 σ → xFz σ = nI 8 → fB σ (zn σ0) rows.length → fT σ (zn σ0) rows.length 8 → Q (some (.ref (zn σ0))) σ) :
    ∀ (d k : Nat) (σ : zS), k + d = 8 → zU σ0 σ → xFz σ = nI k → fB σ (zn σ0) rows.length → fT σ (zn σ0) rows.length k → zAW l zmL_facts { frames := 4, cells := 9, slots := SS, locals := 89 } 20 [(0, .ref 1), (1, .ref 30), (2, .ref 0), (3, .int 9), (4, .int (nI rows.length)), (5, .ref (zn σ0)), (6, .int (nI k))] [] σ 9 SS Q := by
  intro d
  induction d with
  | zero =>
    intro k σ hd hu fz fb ft
    have e : k = 8 := by omega
    subst e
    refine zw_iload dL_facts_20 rfl ?_
    refine zw_bipush (x := 8) dL_facts_22 rfl ?_
    refine zw_icmpge (tgt := 446) dL_facts_24 (by decide) (fun c24 => ?_) (fun c24 => ?_)
    · refine zw_aload dL_facts_446 rfl ?_
      refine zw_aret dL_facts_448 rfl (Or.inr ⟨_, rfl⟩) ?_
      exact KF σ hu fz fb ft
    · exact absurd (by decide) c24
  | succ d ih =>
    intro k σ hd hu fz fb ft
    have hk : k < 8 := by omega
    refine zw_wf (fun hw => ?_)
    have cr := cr0.u hw0 hu
    have hr5 : ∀ r, r ∈ rows → r.length ≤ 5 := fun r hr => by rw [(hrok r hr).1]; omega
    have wh := wh0.u cr0.1 hr5 hu
    have h30 := wh0.2.1
    obtain ⟨wk, w30, ⟨la, gl, l30, il⟩, ⟨ga, gg, g30, ig⟩, sa, gsa, sa30, isa⟩ := wh
    have KN : ∀ σ : zS, zU σ0 σ → xFz σ = nI (k + 1) → fB σ (zn σ0) rows.length → fT σ (zn σ0) rows.length (k + 1) → zAW l zmL_facts { frames := 4, cells := 9, slots := SS, locals := 89 } 20 [(0, .ref 1), (1, .ref 30), (2, .ref 0), (3, .int 9), (4, .int (nI rows.length)), (5, .ref (zn σ0)), (6, .int (nI (k + 1)))] [] σ 9 SS Q := fun σ2 q1 q2 q3 q4 => ih (k + 1) σ2 (by omega) q1 q2 q3 q4
    have K107 : ∀ (x : Int32) (so : Nat), so < 6 → (so = 1 ∨ so = 2 → 0 < G.length) → (3 ≤ so → 0 < k) → zAW l zmL_facts { frames := 4, cells := 9, slots := SS, locals := 89 } 107 [(0, .ref 1), (1, .ref 30), (2, .ref 0), (3, .int 9), (4, .int (nI rows.length)), (5, .ref (zn σ0)), (6, .int (nI k)), (7, .int (x)), (8, .int (nI so))] [] σ 9 SS Q := by
      intro x so s1 s2 s3
      rcases (show so = 0 ∨ so = 1 ∨ so = 2 ∨ so = 3 ∨ so = 4 ∨ so = 5 by omega) with rfl | rfl | rfl | rfl | rfl | rfl
      · exact lp_fa_0 hw0 cr0 wh0 lo h1 h3 h2 hn hrok hkey hk KN σ 9 SS hu fz fb ft (Nat.le_refl _) (Nat.le_refl _)
      · exact lp_fa_1 hw0 cr0 wh0 lo h1 h3 h2 hn hrok hkey hk (s2 (Or.inl rfl)) KN σ 9 SS hu fz fb ft (Nat.le_refl _) (Nat.le_refl _)
      · exact lp_fa_2 hw0 cr0 wh0 lo h1 h3 h2 hn hrok hkey hk (s2 (Or.inr rfl)) KN σ 9 SS hu fz fb ft (Nat.le_refl _) (Nat.le_refl _)
      · exact lp_fa_3 hw0 cr0 wh0 lo h1 h3 h2 hn hrok hkey hk (s3 (by decide)) KN σ 9 SS hu fz fb ft (Nat.le_refl _) (Nat.le_refl _)
      · exact lp_fa_4 hw0 cr0 wh0 lo h1 h3 h2 hn hrok hkey hk (s3 (by decide)) KN σ 9 SS hu fz fb ft (Nat.le_refl _) (Nat.le_refl _)
      · exact lp_fa_5 hw0 cr0 wh0 lo h1 h3 h2 hn hrok hkey hk (s3 (by decide)) KN σ 9 SS hu fz fb ft (Nat.le_refl _) (Nat.le_refl _)
    refine zw_iload dL_facts_20 rfl ?_
    refine zw_bipush (x := 8) dL_facts_22 rfl ?_
    refine zw_icmpge (tgt := 446) dL_facts_24 (by decide) (fun c24 => ?_) (fun c24 => ?_)
    · exact absurd c24 (nI_ge (a := k) (b := 8) hk (by decide))
    · refine zw_aload_n dL_facts_27 rfl ?_
      refine zw_iload_n dL_facts_28 rfl ?_
      refine zw_iload dL_facts_29 rfl ?_
      refine zw_iadd dL_facts_31 ?_
      rw [show (9 : Int32) + nI k = nI (9 + k) from nI_add 9 k]
      refine zw_callS (y' := zmL_cell) dL_facts_32 zlL_12 zmL_cell_ok (c_L_cell hw.2.1 cr.2.2.2.2 (k := 9 + k) (by omega)) rfl rfl (Nat.le_of_ble_eq_true rfl) ⟨Nat.le_of_ble_eq_true rfl, Nat.le_of_ble_eq_true rfl⟩ ⟨by show _ ≤ 9; omega, by show _ ≤ SS; omega⟩ ?_
      intro v32 s32 q32
      obtain ⟨⟨x32, rfl⟩, z32⟩ := q32
      rw [z32]
      clear z32
      refine zw_istore dL_facts_35 (by decide) rfl ?_
      refine zw_iload dL_facts_37 rfl ?_
      refine zw_ifeq (tgt := 56) dL_facts_39 (by decide) (fun c39 => ?_) (fun c39 => ?_)
      · refine zw_iconst (x := 0) dL_facts_56 rfl ?_
        refine zw_goto (tgt := 82) dL_facts_57 (by decide) ?_
        exact zw_loc (lc' := [(0, .ref 1), (1, .ref 30), (2, .ref 0), (3, .int 9), (4, .int (nI rows.length)), (5, .ref (zn σ0)), (6, .int (nI k)), (7, .int (x32))]) (zsub_cons rfl (zsub_cons rfl (zsub_cons rfl (zsub_cons rfl (zsub_cons rfl (zsub_cons rfl (zsub_cons rfl (zsub_cons rfl zsub_nil)))))))) (lp_f82 hw0 cr0 wh0 lo h1 h3 h2 hn hrok hkey hk σ _ _ hu (K107 x32) (0) (by decide) (fun _ => rfl) (fun _ => by decide))
      · refine zw_aload_n dL_facts_42 rfl ?_
        refine zw_getR dL_facts_43 zfL_36 rfl wk (by decide) gg ?_
        refine zw_alen (t := 0) dL_facts_46 ig.1 (by decide) ?_
        rw [ig.2.2.2.1]
        refine zw_ifne (tgt := 60) dL_facts_47 (by decide) (fun c47 => ?_) (fun c47 => ?_)
        · refine zw_iload dL_facts_60 rfl ?_
          refine zw_iconst (x := 3) dL_facts_62 rfl ?_
          refine zw_icmpge (tgt := 75) dL_facts_63 (by decide) (fun c63 => ?_) (fun c63 => ?_)
          · refine zw_iload dL_facts_75 rfl ?_
            refine zw_bipush (x := 6) dL_facts_77 rfl ?_
            refine zw_callS (y' := zmL_below) dL_facts_79 zlL_18 zmL_below_ok (c_L_below (n := 6) (by decide) (by decide)) rfl rfl (Nat.le_of_ble_eq_true rfl) ⟨Nat.le_of_ble_eq_true rfl, Nat.le_of_ble_eq_true rfl⟩ ⟨by show _ ≤ 9; omega, by show _ ≤ SS; omega⟩ ?_
            intro v79 s79 q79
            obtain ⟨⟨j79, h79, rfl⟩, z79⟩ := q79
            rw [z79]
            clear z79
            exact zw_loc (lc' := [(0, .ref 1), (1, .ref 30), (2, .ref 0), (3, .int 9), (4, .int (nI rows.length)), (5, .ref (zn σ0)), (6, .int (nI k)), (7, .int (x32))]) (zsub_cons rfl (zsub_cons rfl (zsub_cons rfl (zsub_cons rfl (zsub_cons rfl (zsub_cons rfl (zsub_cons rfl (zsub_cons rfl zsub_nil)))))))) (lp_f82 hw0 cr0 wh0 lo h1 h3 h2 hn hrok hkey hk σ _ _ hu (K107 x32) (j79) h79 (fun q => absurd (by rw [q]; rfl) c39) (fun q => absurd c63 (nI_ge (b := 3) q (by decide))))
          · refine zw_iload dL_facts_66 rfl ?_
            refine zw_iconst (x := 3) dL_facts_68 rfl ?_
            refine zw_callS (y' := zmL_below) dL_facts_69 zlL_18 zmL_below_ok (c_L_below (n := 3) (by decide) (by decide)) rfl rfl (Nat.le_of_ble_eq_true rfl) ⟨Nat.le_of_ble_eq_true rfl, Nat.le_of_ble_eq_true rfl⟩ ⟨by show _ ≤ 9; omega, by show _ ≤ SS; omega⟩ ?_
            intro v69 s69 q69
            obtain ⟨⟨j69, h69, rfl⟩, z69⟩ := q69
            rw [z69]
            clear z69
            refine zw_goto (tgt := 82) dL_facts_72 (by decide) ?_
            exact zw_loc (lc' := [(0, .ref 1), (1, .ref 30), (2, .ref 0), (3, .int 9), (4, .int (nI rows.length)), (5, .ref (zn σ0)), (6, .int (nI k)), (7, .int (x32))]) (zsub_cons rfl (zsub_cons rfl (zsub_cons rfl (zsub_cons rfl (zsub_cons rfl (zsub_cons rfl (zsub_cons rfl (zsub_cons rfl zsub_nil)))))))) (lp_f82 hw0 cr0 wh0 lo h1 h3 h2 hn hrok hkey hk σ _ _ hu (K107 x32) (j69) (by omega) (fun q => absurd (by rw [q]; rfl) c39) (fun _ => h69))
        · refine zw_iload dL_facts_50 rfl ?_
          refine zw_iconst (x := 3) dL_facts_52 rfl ?_
          refine zw_icmpge (tgt := 60) dL_facts_53 (by decide) (fun c53 => ?_) (fun c53 => ?_)
          · refine zw_iload dL_facts_60 rfl ?_
            refine zw_iconst (x := 3) dL_facts_62 rfl ?_
            refine zw_icmpge (tgt := 75) dL_facts_63 (by decide) (fun c63 => ?_) (fun c63 => ?_)
            · refine zw_iload dL_facts_75 rfl ?_
              refine zw_bipush (x := 6) dL_facts_77 rfl ?_
              refine zw_callS (y' := zmL_below) dL_facts_79 zlL_18 zmL_below_ok (c_L_below (n := 6) (by decide) (by decide)) rfl rfl (Nat.le_of_ble_eq_true rfl) ⟨Nat.le_of_ble_eq_true rfl, Nat.le_of_ble_eq_true rfl⟩ ⟨by show _ ≤ 9; omega, by show _ ≤ SS; omega⟩ ?_
              intro v79 s79 q79
              obtain ⟨⟨j79, h79, rfl⟩, z79⟩ := q79
              rw [z79]
              clear z79
              exact zw_loc (lc' := [(0, .ref 1), (1, .ref 30), (2, .ref 0), (3, .int 9), (4, .int (nI rows.length)), (5, .ref (zn σ0)), (6, .int (nI k)), (7, .int (x32))]) (zsub_cons rfl (zsub_cons rfl (zsub_cons rfl (zsub_cons rfl (zsub_cons rfl (zsub_cons rfl (zsub_cons rfl (zsub_cons rfl zsub_nil)))))))) (lp_f82 hw0 cr0 wh0 lo h1 h3 h2 hn hrok hkey hk σ _ _ hu (K107 x32) (j79) h79 (fun q => absurd (by rw [q]; rfl) c39) (fun q => absurd c63 (nI_ge (b := 3) q (by decide))))
            · refine zw_iload dL_facts_66 rfl ?_
              refine zw_iconst (x := 3) dL_facts_68 rfl ?_
              refine zw_callS (y' := zmL_below) dL_facts_69 zlL_18 zmL_below_ok (c_L_below (n := 3) (by decide) (by decide)) rfl rfl (Nat.le_of_ble_eq_true rfl) ⟨Nat.le_of_ble_eq_true rfl, Nat.le_of_ble_eq_true rfl⟩ ⟨by show _ ≤ 9; omega, by show _ ≤ SS; omega⟩ ?_
              intro v69 s69 q69
              obtain ⟨⟨j69, h69, rfl⟩, z69⟩ := q69
              rw [z69]
              clear z69
              refine zw_goto (tgt := 82) dL_facts_72 (by decide) ?_
              exact zw_loc (lc' := [(0, .ref 1), (1, .ref 30), (2, .ref 0), (3, .int 9), (4, .int (nI rows.length)), (5, .ref (zn σ0)), (6, .int (nI k)), (7, .int (x32))]) (zsub_cons rfl (zsub_cons rfl (zsub_cons rfl (zsub_cons rfl (zsub_cons rfl (zsub_cons rfl (zsub_cons rfl (zsub_cons rfl zsub_nil)))))))) (lp_f82 hw0 cr0 wh0 lo h1 h3 h2 hn hrok hkey hk σ _ _ hu (K107 x32) (j69) (by omega) (fun q => absurd (by rw [q]; rfl) c39) (fun _ => h69))
          · refine zw_iconst (x := 0) dL_facts_56 rfl ?_
            refine zw_goto (tgt := 82) dL_facts_57 (by decide) ?_
            exact zw_loc (lc' := [(0, .ref 1), (1, .ref 30), (2, .ref 0), (3, .int 9), (4, .int (nI rows.length)), (5, .ref (zn σ0)), (6, .int (nI k)), (7, .int (x32))]) (zsub_cons rfl (zsub_cons rfl (zsub_cons rfl (zsub_cons rfl (zsub_cons rfl (zsub_cons rfl (zsub_cons rfl (zsub_cons rfl zsub_nil)))))))) (lp_f82 hw0 cr0 wh0 lo h1 h3 h2 hn hrok hkey hk σ _ _ hu (K107 x32) (0) (by decide) (fun _ => rfl) (fun _ => by decide))
set_option maxHeartbeats 4000000 in
set_option maxRecDepth 100000 in
theorem c_L_facts {l : Launch} {σ0 : zS} {ls G : List Int32} {rows : List (List Int32)} (hw0 : zWF σ0) (cr0 : cR σ0 ls G) (wh0 : wH σ0 ls G rows) (lo : lsOk ls) (h1 : 1 ≤ ls.length) (h3 : ls.length ≤ 3) (h2 : G.length ≤ 2) (hn : rows.length ≤ 400) (hrok : ∀ r, r ∈ rows → rOk ls.length G.length r) (hkey : ∀ (s : Nat) (r : List Int32), rows[s]? = some r → zI σ0 9 s = enc ls.length G.length r) (fz0 : xFz σ0 = nI 0) : zAM l zmL_facts 4 89 9 (8 + 8 * rows.length) [.ref 1, .ref 30, .ref 0, .int 9] σ0 (fun v σ' => v = some (.ref (zn σ0)) ∧ zU σ0 σ' ∧ xFz σ' = nI 8 ∧ fB σ' (zn σ0) rows.length ∧ fT σ' (zn σ0) rows.length 8) := by
  refine zAM.of (by decide +kernel) (Nat.le_of_ble_eq_true rfl) ?_
  obtain ⟨wk, w30, ⟨la, gl, l30, il⟩, ⟨ga, gg, g30, ig⟩, sa, gsa, sa30, isa⟩ := id wh0
  refine zw_aload_n dL_facts_0 rfl ?_
  refine zw_getR dL_facts_1 zfL_63 rfl wk (by decide) gsa ?_
  refine zw_alen (t := 4) dL_facts_4 isa.1 (by decide) ?_
  rw [isa.2.2.2.1]
  refine zw_istore dL_facts_5 (by decide) rfl ?_
  refine zw_bipush (x := 8) dL_facts_7 rfl ?_
  refine zw_iload dL_facts_9 rfl ?_
  refine zw_multi (t1 := 6) (t2 := 1) (N := 8) (M := rows.length) dL_facts_11 zclL_67 (by decide) (by decide) rfl rfl (Or.inl zaw_1) ⟨by decide, by decide⟩ (fun _ _ => rfl) ⟨rfl, rfl⟩ rfl rfl (Nat.le_of_ble_eq_true rfl) (by omega) (Nat.le_of_ble_eq_true rfl) ⟨Nat.le_of_ble_eq_true rfl, by show 0 + (8 + 8 * rows.length) ≤ 8 + 8 * rows.length; omega⟩ ?_
  have hu := zU.M σ0 6 1 8 rows.length
  have fz : xFz (znM σ0 6 1 8 rows.length) = nI 0 := fz0
  have fb : fB (znM σ0 6 1 8 rows.length) (zn σ0) rows.length := ⟨by rw [zn_znM]; omega, by rw [zK_znM, if_pos rfl], by rw [zL_znM, if_pos rfl], fun j hj => ⟨by rw [zR_znM, if_pos rfl], by rw [zK_znM, if_neg (by omega), if_pos ⟨by omega, by omega⟩], by rw [zL_znM, if_neg (by omega), if_pos ⟨by omega, by omega⟩]⟩⟩
  generalize znM σ0 6 1 8 rows.length = σ at hu fz fb ⊢
  refine zw_astore dL_facts_15 (by decide) rfl ?_
  refine zw_iconst (x := 0) dL_facts_17 rfl ?_
  refine zw_istore dL_facts_18 (by decide) rfl ?_
  refine zw_loc (lc' := [(0, .ref 1), (1, .ref 30), (2, .ref 0), (3, .int 9), (4, .int (nI rows.length)), (5, .ref (zn σ0)), (6, .int (nI 0))]) (zsub_cons rfl (zsub_cons rfl (zsub_cons rfl (zsub_cons rfl (zsub_cons rfl (zsub_cons rfl (zsub_cons rfl zsub_nil))))))) ?_
  refine zw_room (uc' := 9) (us' := 8 + 8 * rows.length) (by omega) (by omega) ⟨Nat.le_refl _, Nat.le_refl _⟩ ?_
  exact lp_f hw0 cr0 wh0 lo h1 h3 h2 hn hrok hkey (fun σ2 q1 q2 q3 q4 => ⟨rfl, q1, q2, q3, q4⟩) 8 0 σ rfl hu fz fb (fun j hj => absurd hj (Nat.not_lt_zero j))
