/-! the hand's moves and the class's agree -/
def rMv (σ : zS) (G : List Int32) (a : Nat) (o : hMv) : Prop := zF σ 1 2 a = o.f ∧ zF σ 1 3 a = o.t ∧ zF σ 1 4 a = o.h ∧ zF σ 1 5 a = o.gs ∧ zF σ 1 6 a = nI o.gv ∧ zF σ 1 7 a = o.gn ∧ zF σ 1 8 a = o.ds ∧ zF σ 1 9 a = nI o.dv ∧ zF σ 1 10 a = o.dn ∧ (o.ds ≠ 0 → zF σ 1 11 a = (G[o.dv]?).getD 0)
def oMv (V : Nat) (o : hMv) : Prop := (∃ f, f < 4 ∧ o.f = nI f) ∧ (∃ t, t < 4 ∧ o.t = nI t) ∧ (o.gs ≠ 0 → o.gv < V) ∧ (o.gs = 0 ∨ o.gs = 1 ∨ o.gs = 2 ∨ o.gs = 3 ∨ o.gs = 4) ∧ (o.ds = 0 ∨ o.ds = 1 ∨ o.ds = 2) ∧ (o.ds ≠ 0 → o.dv < V) ∧ (∃ j, j < 4 ∧ o.dn = nI j - 1) ∧ 0 ≤ o.h
def oG (G : List Int32) : Prop := ∀ v, v < G.length → ∃ b, b < 4 ∧ G[v]? = some (nI b)
theorem hVal_w {L : Nat} {st : List Int32} {o : hMv} {n j : Nat} (h : st[L + o.dv]? = some (nI n)) (hn : n < 4) (hj : j < 4) (e : o.dn = nI j - 1) : ∃ w, w < 8 ∧ hVal L st o = nI w - 1 := by
  unfold hVal
  by_cases c : o.ds = 1
  · rw [if_pos c]; exact ⟨j, by omega, e⟩
  · rw [if_neg c, h, e]
    refine ⟨n + j, by omega, ?_⟩
    show nI n + (nI j - 1) = nI (n + j) - 1
    rw [← nI_add, Int32.sub_eq_add_neg, Int32.sub_eq_add_neg, Int32.add_assoc]
theorem do_sim {σ : zS} {L a p : Nat} {G st : List Int32} {o : hMv} (hL : L ≤ 3) (hV : G.length ≤ 2) (hG : oG G) (hst : rOk L G.length st) (hp : p < L) (h0 : zF σ 1 0 a = nI p) (hr : rMv σ G a o) (ho : oMv G.length o) :
    (hDn L G st p o = none ∧ xAD σ a (enc L G.length st) = -1) ∨ ∃ t, hDn L G st p o = some t ∧ rOk L G.length t ∧ 0 ≤ xAD σ a (enc L G.length st) ∧ xAG σ a (xAD σ a (enc L G.length st)) = enc L G.length t := by
  obtain ⟨r2, r3, r4, r5, r6, r7, r8, r9, r10, r11⟩ := hr
  obtain ⟨⟨f, hf, ef⟩, ⟨t, ht, et⟩, o3, o4, o5, o6, ⟨j, hj, ej⟩, o8⟩ := ho
  by_cases c : o.ds = 0
  · refine Or.inr ⟨st.set p o.t, ?_, ?_, ?_, ?_⟩
    · unfold hDn
      rw [if_pos c]
    · rw [et]; exact rOk_set hst ht
    · unfold xAD
      rw [r8, if_pos c]; exact enc_pos hst
    · unfold xAD
      rw [r8, if_pos c]
      unfold xAG
      rw [h0, r3, et]
      exact enc_wloc hst hL hp ht
  · have hdv := o6 c
    obtain ⟨g, hg, eg⟩ := hG o.dv hdv
    have en := hst.n (show L + o.dv < L + G.length by omega)
    have ev : xVal (enc L G.length st) (nI o.dv) = nI (eN st (L + o.dv)) := enc_val hst hV hdv
    obtain ⟨w, hw, ew⟩ := hVal_w en.1 en.2 hj ej
    have eX : xAD σ a (enc L G.length st) = if 0 ≤ hVal L st o ∧ hVal L st o ≤ nI g then xWVal (enc L G.length st) (nI o.dv) (hVal L st o) else -1 := by
      have r11 := r11 c
      rw [eg] at r11
      have r11 : zF σ 1 11 a = nI g := r11
      unfold xAD hVal
      rw [r8, if_neg c, r9, r10, r11, ev]
      by_cases c1 : o.ds = 1
      · rw [if_pos c1, if_pos c1]
      · rw [if_neg c1, if_neg c1, en.1]
        rfl
    have hD : hDn L G st p o = if hVal L st o < 0 then none else if hVal L st o ≤ nI g then some ((st.set p o.t).set (L + o.dv) (hVal L st o)) else none := by
      unfold hDn
      rw [if_neg c, eg]
      rfl
    rw [ew] at eX hD
    cases w with
    | zero =>
      refine Or.inl ⟨?_, ?_⟩
      · rw [hD, if_pos (by decide)]
      · rw [eX, if_neg (fun q => absurd q.1 (by decide))]
    | succ w =>
      rw [nI_pred] at eX hD
      rw [if_neg (nI_pos (by omega))] at hD
      by_cases c2 : w ≤ g
      · rw [if_pos (nI_le c2 (by omega))] at hD
        rw [if_pos ⟨nI_pos' (by omega), nI_le c2 (by omega)⟩, enc_wval hst hL hV hdv (by omega)] at eX
        have hs2 : rOk L G.length (st.set (L + o.dv) (nI w)) := rOk_set hst (by omega)
        refine Or.inr ⟨_, hD, ?_, ?_, ?_⟩
        · rw [et]; exact rOk_set (rOk_set hst ht) (by omega)
        · rw [eX]; exact enc_pos hs2
        · rw [eX]
          unfold xAG
          rw [h0, r3, et, enc_wloc hs2 hL hp ht, List.set_comm _ _ (by omega)]
      · rw [if_neg (nI_ge (by omega) (by omega))] at hD
        rw [if_neg (fun q => nI_ge (show g < w by omega) (by omega) q.2)] at eX
        exact Or.inl ⟨hD, eX⟩
theorem op_sim {σ : zS} {L a p : Nat} {G st : List Int32} {o : hMv} (hL : L ≤ 3) (hV : G.length ≤ 2) (hG : oG G) (hst : rOk L G.length st) (hp : p < L) (h0 : zF σ 1 0 a = nI p) (hr : rMv σ G a o) (ho : oMv G.length o) : hOpn L G st p o = xOpen σ a (enc L G.length st) := by
  have hdo := do_sim hL hV hG hst hp h0 hr ho
  obtain ⟨r2, r3, r4, r5, r6, r7, r8, r9, r10, r11⟩ := hr
  obtain ⟨-, -, o3, o4, -⟩ := ho
  have hn := hst.n (show p < L + G.length by omega)
  have e1 : decide (st[p]? = some o.f) = decide (xLoc (enc L G.length st) (zF σ 1 0 a) = zF σ 1 2 a) := by
    refine decide_eq_decide.mpr ?_
    rw [h0, enc_loc hst hL hp, r2, hn.1]
    exact ⟨fun q => Option.some.inj q, fun q => congrArg some q⟩
  have e2 : (hDn L G st p o).isSome = decide (0 ≤ xAD σ a (enc L G.length st)) := by
    rcases hdo with ⟨q1, q2⟩ | ⟨t, q1, q2, q3, q4⟩
    · rw [q1, q2]; decide
    · rw [q1, decide_eq_true q3]; rfl
  have e3 : (decide (o.gs = 0) || (decide (o.gs = 1) && decide ((st[L + o.gv]?).getD 0 = o.gn)) || (decide (o.gs = 2) && decide ((st[L + o.gv]?).getD 0 ≠ o.gn)) || (decide (o.gs = 3) && decide ((st[L + o.gv]?).getD 0 < o.gn)) || (decide (o.gs = 4) && decide (o.gn < (st[L + o.gv]?).getD 0))) = xGA σ a (enc L G.length st) := by
    by_cases c : o.gs = 0
    · unfold xGA
      rw [r5, c]
      simp
    · have hg := o3 c
      have en := hst.n (show L + o.gv < L + G.length by omega)
      have ev : xVal (enc L G.length st) (nI o.gv) = (st[L + o.gv]?).getD 0 := by
        rw [enc_val hst hV hg, en.1]; rfl
      unfold xGA
      rw [r5, r6, r7, ev]
      generalize (st[L + o.gv]?).getD 0 = y
      rcases o4 with e | e | e | e | e
      · exact absurd e c
      · rw [e]; simp
      · rw [e]; simp
      · rw [e]; simp
      · rw [e]; simp
  unfold hOpn xOpen
  rw [e1, e2, e3, Bool.and_comm (decide (0 ≤ xAD σ a (enc L G.length st)))]
def rAll (σ : zS) (L : Nat) (G : List Int32) (mvs : List (List hMv)) (mc : Nat → Nat) (mid : Nat → Nat → Nat) : Prop := xPro σ L mc mid ∧ G.length ≤ 2 ∧ oG G ∧ L ≤ mvs.length ∧ ∀ (p : Nat) (ms : List hMv), p < L → mvs[p]? = some ms → ms.length = mc p ∧ ∀ (m : Nat) (o : hMv), ms[m]? = some o → rMv σ G (mid p m) o ∧ oMv G.length o
theorem pr_sim {σ : zS} {L a q m : Nat} {G st beh : List Int32} {mvs : List (List hMv)} {mc : Nat → Nat} {mid : Nat → Nat → Nat} {one o : hMv} {ms : List hMv} (h : rAll σ L G mvs mc mid) (hst : rOk L G.length st) (hbe : rOk L G.length beh) (ha : zF σ 1 4 a = one.h) (hqL : q < L) (hq : mvs[q]? = some ms) (hm : ms[m]? = some o) :
    (hPr L G st beh one q o = none ∧ xPair σ a (mid q m) (enc L G.length st) (enc L G.length beh) = false) ∨ ∃ t, hPr L G st beh one q o = some t ∧ rOk L G.length t ∧ xPair σ a (mid q m) (enc L G.length st) (enc L G.length beh) = true ∧ xAG σ (mid q m) (xAD σ (mid q m) (enc L G.length beh)) = enc L G.length t := by
  obtain ⟨hpro, hV, hG, hl, hR⟩ := h
  obtain ⟨e1, e2⟩ := hR q ms hqL hq
  obtain ⟨hr, ho⟩ := e2 m o hm
  have hml : m < mc q := by rw [← e1]; exact (List.getElem?_eq_some_iff.mp hm).1
  have h0 := (hpro.2.2.2 q m hqL hml).2.2.1
  have eo := op_sim hpro.2.1 hV hG hst hqL h0 hr ho
  have hh := hr.2.2.1
  unfold hPr xPair
  rw [hh, ha]
  by_cases c1 : o.h = one.h
  · rw [if_pos c1, decide_eq_true c1, Bool.true_and, ← eo]
    by_cases c2 : hOpn L G st q o = true
    · rw [if_pos c2, c2, Bool.true_and]
      rcases do_sim hpro.2.1 hV hG hbe hqL h0 hr ho with ⟨q1, q2⟩ | ⟨t, q1, q2, q3, q4⟩
      · refine Or.inl ⟨q1, ?_⟩
        rw [q2]; decide
      · exact Or.inr ⟨t, q1, q2, decide_eq_true q3, q4⟩
    · rw [if_neg c2]
      refine Or.inl ⟨rfl, ?_⟩
      rw [Bool.eq_false_iff.mpr c2]; rfl
  · rw [if_neg c1, decide_eq_false c1]
    exact Or.inl ⟨rfl, rfl⟩
theorem tKs_sim {σ : zS} {L a q : Nat} {G st beh : List Int32} {mvs : List (List hMv)} {mc : Nat → Nat} {mid : Nat → Nat → Nat} {one : hMv} {ms : List hMv} (h : rAll σ L G mvs mc mid) (hst : rOk L G.length st) (hbe : rOk L G.length beh) (ha : zF σ 1 4 a = one.h) (hqL : q < L) (hq : mvs[q]? = some ms) :
    ∀ (d m : Nat), m + d = ms.length → (∀ t, t ∈ tKs L G st beh one q (ms.drop m) → rOk L G.length t) ∧ (tKs L G st beh one q (ms.drop m)).map (enc L G.length) = (lIn σ mid a (enc L G.length st) (enc L G.length beh) q d m).map (fun p => p.1)
  | 0, m, hd => by
    rw [List.drop_eq_nil_of_le (by omega)]
    exact ⟨fun _ q => (List.not_mem_nil q).elim, rfl⟩
  | d + 1, m, hd => by
    obtain ⟨h1, h2⟩ := tKs_sim h hst hbe ha hqL hq d (m + 1) (by omega)
    have hlt : m < ms.length := by omega
    rw [List.drop_eq_getElem_cons hlt]
    have hm : ms[m]? = some ms[m] := List.getElem?_eq_getElem hlt
    unfold tKs lIn
    rcases pr_sim h hst hbe ha hqL hq hm with ⟨q1, q2⟩ | ⟨t, q1, q2, q3, q4⟩
    · rw [q1, if_neg (by rw [q2]; decide)]
      exact ⟨h1, h2⟩
    · rw [q1, if_pos q3]
      refine ⟨fun x hx => ?_, ?_⟩
      · rcases List.mem_append.mp hx with z | z
        · rw [List.mem_singleton.mp z]; exact q2
        · exact h1 x z
      · rw [List.map_append, List.map_append, h2]
        show [enc L G.length t] ++ _ = [xAG σ (mid q m) (xAD σ (mid q m) (enc L G.length beh))] ++ _
        rw [q4]
theorem tBs_sim {σ : zS} {L a : Nat} {G st beh : List Int32} {mvs : List (List hMv)} {mc : Nat → Nat} {mid : Nat → Nat → Nat} {one : hMv} (h : rAll σ L G mvs mc mid) (hst : rOk L G.length st) (hbe : rOk L G.length beh) (ha : zF σ 1 4 a = one.h) :
    ∀ (d b : Nat), b + d = L → (∀ t, t ∈ tBs L G mvs st beh one d b → rOk L G.length t) ∧ (tBs L G mvs st beh one d b).map (enc L G.length) = (lOut σ mc mid a (enc L G.length st) (enc L G.length beh) d b).map (fun p => p.1)
  | 0, _, _ => ⟨fun _ q => (List.not_mem_nil q).elim, rfl⟩
  | d + 1, b, hd => by
    obtain ⟨h1, h2⟩ := tBs_sim h hst hbe ha d (b + 1) (by omega)
    have hlt : b < mvs.length := Nat.lt_of_lt_of_le (show b < L by omega) h.2.2.2.1
    have hb : mvs[b]? = some mvs[b] := List.getElem?_eq_getElem hlt
    have hl := (h.2.2.2.2 b _ (by omega) hb).1
    obtain ⟨h3, h4⟩ := tKs_sim h hst hbe ha (show b < L by omega) hb mvs[b].length 0 (Nat.zero_add _)
    rw [List.drop_zero] at h3 h4
    unfold tBs lOut
    rw [hb]
    show (∀ t, t ∈ tKs L G st beh one b mvs[b] ++ _ → _) ∧ (tKs L G st beh one b mvs[b] ++ _).map _ = _
    refine ⟨fun x hx => ?_, ?_⟩
    · rcases List.mem_append.mp hx with z | z
      · exact h3 x z
      · exact h1 x z
    · rw [List.map_append, List.map_append, h2, h4, hl]
theorem tCh_sim {σ : zS} {L p m : Nat} {G st : List Int32} {mvs : List (List hMv)} {mc : Nat → Nat} {mid : Nat → Nat → Nat} {one : hMv} {ms : List hMv} (h : rAll σ L G mvs mc mid) (hst : rOk L G.length st) (hpL : p < L) (hp : mvs[p]? = some ms) (hm : ms[m]? = some one) :
    (∀ t, t ∈ tCh L G mvs st p one → rOk L G.length t) ∧ (tCh L G mvs st p one).map (enc L G.length) = (if xOpen σ (mid p m) (enc L G.length st) = true then lBy σ L mc mid p (mid p m) (enc L G.length st) else []).map (fun p => p.1) := by
  obtain ⟨hpro, hV, hG, hl, hR⟩ := id h
  obtain ⟨e1, e2⟩ := hR p ms hpL hp
  obtain ⟨hr, ho⟩ := e2 m one hm
  have hml : m < mc p := by rw [← e1]; exact (List.getElem?_eq_some_iff.mp hm).1
  have h0 := (hpro.2.2.2 p m hpL hml).2.2.1
  have eo := op_sim hpro.2.1 hV hG hst hpL h0 hr ho
  unfold tCh
  rw [← eo]
  by_cases c : hOpn L G st p one = true
  · rw [if_pos c, if_pos c]
    rcases do_sim hpro.2.1 hV hG hst hpL h0 hr ho with ⟨q1, q2⟩ | ⟨t, q1, q2, q3, q4⟩
    · obtain ⟨t, ht⟩ := hOpn_some c
      rw [q1] at ht
      cases ht
    · rw [q1]
      unfold lBy
      rw [hr.2.2.1, q4]
      show (∀ x, x ∈ (if one.h = 0 then [t] else tBs L G mvs st t one (L - (p + 1)) (p + 1)) → _) ∧ (if one.h = 0 then [t] else tBs L G mvs st t one (L - (p + 1)) (p + 1)).map _ = _
      by_cases c2 : one.h = 0
      · rw [if_pos c2, if_pos c2]
        exact ⟨fun x hx => by rw [List.mem_singleton.mp hx]; exact q2, rfl⟩
      · rw [if_neg c2, if_neg c2]
        exact tBs_sim h hst q2 hr.2.2.1 (L - (p + 1)) (p + 1) (by omega)
  · rw [if_neg c, if_neg c]
    exact ⟨fun _ q => (List.not_mem_nil q).elim, rfl⟩
theorem tMl_sim {σ : zS} {L p : Nat} {G st : List Int32} {mvs : List (List hMv)} {mc : Nat → Nat} {mid : Nat → Nat → Nat} {ms : List hMv} (h : rAll σ L G mvs mc mid) (hst : rOk L G.length st) (hpL : p < L) (hp : mvs[p]? = some ms) :
    ∀ (d m : Nat), m + d = ms.length → (∀ t, t ∈ tMl L G mvs st p (ms.drop m) → rOk L G.length t) ∧ (tMl L G mvs st p (ms.drop m)).map (enc L G.length) = (lMvI σ L mc mid (enc L G.length st) p d m).map (fun p => p.1)
  | 0, m, hd => by
    rw [List.drop_eq_nil_of_le (by omega)]
    exact ⟨fun _ q => (List.not_mem_nil q).elim, rfl⟩
  | d + 1, m, hd => by
    obtain ⟨h1, h2⟩ := tMl_sim h hst hpL hp d (m + 1) (by omega)
    have hlt : m < ms.length := by omega
    rw [List.drop_eq_getElem_cons hlt]
    have hm : ms[m]? = some ms[m] := List.getElem?_eq_getElem hlt
    obtain ⟨h3, h4⟩ := tCh_sim h hst hpL hp hm
    unfold tMl lMvI
    refine ⟨fun x hx => ?_, ?_⟩
    · rcases List.mem_append.mp hx with z | z
      · exact h3 x z
      · exact h1 x z
    · rw [List.map_append, List.map_append, h2, h4]
theorem tAl_sim {σ : zS} {L : Nat} {G st : List Int32} {mvs : List (List hMv)} {mc : Nat → Nat} {mid : Nat → Nat → Nat} (h : rAll σ L G mvs mc mid) (hst : rOk L G.length st) :
    ∀ (d a : Nat), a + d = L → (∀ t, t ∈ tAl L G mvs st d a → rOk L G.length t) ∧ (tAl L G mvs st d a).map (enc L G.length) = (lMvO σ L mc mid (enc L G.length st) d a).map (fun p => p.1)
  | 0, _, _ => ⟨fun _ q => (List.not_mem_nil q).elim, rfl⟩
  | d + 1, a, hd => by
    obtain ⟨h1, h2⟩ := tAl_sim h hst d (a + 1) (by omega)
    have hlt : a < mvs.length := Nat.lt_of_lt_of_le (show a < L by omega) h.2.2.2.1
    have hb : mvs[a]? = some mvs[a] := List.getElem?_eq_getElem hlt
    have hl := (h.2.2.2.2 a _ (by omega) hb).1
    obtain ⟨h3, h4⟩ := tMl_sim h hst (show a < L by omega) hb mvs[a].length 0 (Nat.zero_add _)
    rw [List.drop_zero] at h3 h4
    unfold tAl lMvO
    rw [hb]
    show (∀ t, t ∈ tMl L G mvs st a mvs[a] ++ _ → _) ∧ (tMl L G mvs st a mvs[a] ++ _).map _ = _
    refine ⟨fun x hx => ?_, ?_⟩
    · rcases List.mem_append.mp hx with z | z
      · exact h3 x z
      · exact h1 x z
    · rw [List.map_append, List.map_append, h2, h4, hl]
/-- both numberings agree -/
theorem hBf_sim {σ : zS} {L : Nat} {G : List Int32} {mvs : List (List hMv)} {mc : Nat → Nat} {mid : Nat → Nat → Nat} (h : rAll σ L G mvs mc mid) {st : List Int32} (hst : rOk L G.length st) (d : Nat) : (hBf L G mvs d 0 [st]).map (enc L G.length) = kBf σ L mc mid d 0 [enc L G.length st] :=
  hBf_map (V := rOk L G.length) (fun _ _ h1 h2 e => enc_inj h.1.2.1 h.2.1 h1 h2 e) (fun _ hr => tAl_sim h hr L 0 (Nat.zero_add L)) d 0 [st] (fun r hr => by rw [List.mem_singleton.mp hr]; exact hst)
theorem hBf_rok {σ : zS} {L : Nat} {G : List Int32} {mvs : List (List hMv)} {mc : Nat → Nat} {mid : Nat → Nat → Nat} (h : rAll σ L G mvs mc mid) : ∀ (d s : Nat) (rows : List (List Int32)), (∀ r, r ∈ rows → rOk L G.length r) → ∀ r, r ∈ hBf L G mvs d s rows → rOk L G.length r
  | 0, _, _, hV => hV
  | d + 1, s, rows, hV => by
    show ∀ r, r ∈ (match rows[s]? with
      | some st => hBf L G mvs d (s + 1) (hAl L G mvs st L 0 rows)
      | none => rows) → rOk L G.length r
    cases e : rows[s]? with
    | none => exact hV
    | some st =>
      show ∀ r, r ∈ hBf L G mvs d (s + 1) (hAl L G mvs st L 0 rows) → rOk L G.length r
      rw [hAl_fold]
      exact hBf_rok h d (s + 1) _ (hFold_all _ _ hV (tAl_sim h (hV st (List.mem_of_getElem? e)) L 0 (Nat.zero_add L)).1)
