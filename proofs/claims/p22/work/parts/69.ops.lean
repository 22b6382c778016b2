/-! the class's calls while the law builds -/
theorem Fg_F {σ : zS} {c k a : Nat} (hc : c ≠ 3) : zF (xFg σ) c k a = zF σ c k a := by
  unfold xFg
  rw [zF_zsF, if_neg (fun q => hc q.1), zF_zsF, if_neg (fun q => hc q.1), zF_zsF, if_neg (fun q => hc q.1)]
theorem bC.Fg {σ : zS} {ls G B : List Int32} {mvs : List (List hMv)} {mid : Nat → Nat → Nat} (h : bC σ ls G B mvs mid) : bC (xFg σ) ls G B mvs mid := by
  obtain ⟨h1, ⟨h4, h5⟩, h6, h9, h10, h11⟩ := h
  refine ⟨h1, ⟨(Fg_F (by decide)).trans h4, (Fg_F (by decide)).trans h5⟩, h6, fun p ms hp => ?_, (Fg_F (by decide)).trans h10, (Fg_F (by decide)).trans h11⟩
  obtain ⟨g1, g2⟩ := h9 p ms hp
  refine ⟨g1, fun m x hm => ?_⟩
  obtain ⟨m1, m2, m3, m4, m5⟩ := g2 m x hm
  exact ⟨m1, m2, (Fg_F (by decide)).trans m3, (Fg_F (by decide)).trans m4, m5.cg (fun k => Fg_F (by decide))⟩
theorem zC.Fg {σ0 σ : zS} (h : zC σ0 σ) : zC σ0 (xFg σ) := ((h.F (by decide)).F (by decide)).F (by decide)
theorem app_one {xs : List Int32} {x y : Int32} {p : Nat} (h : (xs ++ [x])[p]? = some y) : (xs[p]? = some y ∧ p ≠ xs.length) ∨ (p = xs.length ∧ y = x) := by
  by_cases c : p < xs.length
  · rw [List.getElem?_append_left c] at h
    exact Or.inl ⟨h, by omega⟩
  · rw [List.getElem?_append_right (by omega)] at h
    have h1 := (List.getElem?_eq_some_iff.mp h).1
    have h1 : p - xs.length < 1 := h1
    have h2 : p - xs.length = 0 := by omega
    rw [h2] at h
    exact Or.inr ⟨by omega, (Option.some.inj h).symm⟩
theorem bC_proc {σ : zS} {ls G B : List Int32} {mvs : List (List hMv)} {mid : Nat → Nat → Nat} {x : Int32} (h : bC σ ls G B mvs mid) : bC (zsF (zsI (xFg σ) 3 ls.length x) 2 5 2 (nI (ls.length + 1))) (ls ++ [x]) G B mvs mid ∧ zC σ (zsF (zsI (xFg σ) 3 ls.length x) 2 5 2 (nI (ls.length + 1))) := by
  refine ⟨?_, (((zC.rf σ).Fg).I (by decide)).F (by decide)⟩
  obtain ⟨h1, ⟨h4, h5⟩, ⟨h6, h7, h8⟩, h9, h10, h11⟩ := h.Fg
  refine ⟨h1, ⟨?_, ?_⟩, ⟨fun p y q => ?_, fun v y q => ?_, fun v y q => ?_⟩, fun p ms hp => ?_, ?_, ?_⟩
  · unfold xP
    rw [zF_zsF, if_pos ⟨rfl, rfl, rfl⟩, List.length_append]
    rfl
  · unfold xV
    rw [zF_zsF, if_neg (by decide)]
    exact h5
  · rw [zI_zsF, zI_zsI]
    rcases app_one q with ⟨q1, q2⟩ | ⟨q1, q2⟩
    · rw [if_neg (fun z => q2 z.2)]
      exact h6 p y q1
    · rw [if_pos ⟨rfl, q1⟩, q2]
  · rw [zI_zsF, zI_zsI, if_neg (fun z => absurd z.1 (by decide))]
    exact h7 v y q
  · rw [zI_zsF, zI_zsI, if_neg (fun z => absurd z.1 (by decide))]
    exact h8 v y q
  · obtain ⟨g1, g2⟩ := h9 p ms hp
    refine ⟨?_, fun m o hm => ?_⟩
    · rw [zI_zsF, zI_zsI, if_neg (fun z => absurd z.1 (by decide))]
      exact g1
    · obtain ⟨m1, m2, m3, m4, m5⟩ := g2 m o hm
      have e : ∀ k a, zF (zsF (zsI (xFg σ) 3 ls.length x) 2 5 2 (nI (ls.length + 1))) 1 k a = zF (xFg σ) 1 k a := fun k a => by rw [zF_zsF, if_neg (fun z => absurd z.1 (by decide)), zF_zsI]
      exact ⟨m1, m2, (e 0 _).trans m3, (e 1 _).trans m4, m5.cg (fun k => e k _)⟩
  · unfold xFz
    rw [zF_zsF, if_neg (by decide)]
    exact h10
  · rw [zF_zsF, if_neg (by decide)]
    exact h11
theorem bC_var {σ : zS} {ls G B : List Int32} {mvs : List (List hMv)} {mid : Nat → Nat → Nat} {x z : Int32} (h : bC σ ls G B mvs mid) (hBG : B.length = G.length) (hno : ∀ (p : Nat) (ms : List hMv), mvs[p]? = some ms → ms = []) :
    bC (zsF (zsI (zsI (xFg σ) 6 G.length x) 7 G.length z) 2 6 2 (nI (G.length + 1))) ls (G ++ [x]) (B ++ [z]) mvs mid ∧ zC σ (zsF (zsI (zsI (xFg σ) 6 G.length x) 7 G.length z) 2 6 2 (nI (G.length + 1))) := by
  refine ⟨?_, ((((zC.rf σ).Fg).I (by decide)).I (by decide)).F (by decide)⟩
  obtain ⟨h1, ⟨h4, h5⟩, ⟨h6, h7, h8⟩, h9, h10, h11⟩ := h.Fg
  refine ⟨h1, ⟨?_, ?_⟩, ⟨fun p y q => ?_, fun v y q => ?_, fun v y q => ?_⟩, fun p ms hp => ?_, ?_, ?_⟩
  · unfold xP
    rw [zF_zsF, if_neg (by decide)]
    exact h4
  · unfold xV
    rw [zF_zsF, if_pos ⟨rfl, rfl, rfl⟩, List.length_append]
    rfl
  · rw [zI_zsF, zI_zsI, if_neg (fun z => absurd z.1 (by decide)), zI_zsI, if_neg (fun z => absurd z.1 (by decide))]
    exact h6 p y q
  · rw [zI_zsF, zI_zsI, if_neg (fun z => absurd z.1 (by decide)), zI_zsI]
    rcases app_one q with ⟨q1, q2⟩ | ⟨q1, q2⟩
    · rw [if_neg (fun z => q2 z.2)]
      exact h7 v y q1
    · rw [if_pos ⟨rfl, q1⟩, q2]
  · rw [zI_zsF, zI_zsI]
    rcases app_one q with ⟨q1, q2⟩ | ⟨q1, q2⟩
    · rw [if_neg (fun z => q2 (by rw [hBG]; exact z.2)), zI_zsI, if_neg (fun z => absurd z.1 (by decide))]
      exact h8 v y q1
    · rw [if_pos ⟨rfl, by rw [← hBG]; exact q1⟩, q2]
  · obtain ⟨g1, g2⟩ := h9 p ms hp
    refine ⟨?_, fun m o hm => ?_⟩
    · rw [zI_zsF, zI_zsI, if_neg (fun z => absurd z.1 (by decide)), zI_zsI, if_neg (fun z => absurd z.1 (by decide))]
      exact g1
    · rw [hno p ms hp] at hm
      cases hm
  · unfold xFz
    rw [zF_zsF, if_neg (by decide)]
    exact h10
  · rw [zF_zsF, if_neg (by decide)]
    exact h11
/-! a move made, guarded, given a deed -/
def oNew (f t d : Int32) : hMv := (f, t, d, 0, 0, 0, 0, 0, 0)
def oGd (o : hMv) (x : Int32) (v : Nat) (z : Int32) : hMv := (o.f, o.t, o.h, x, v, z, o.ds, o.dv, o.dn)
def oDd (o : hMv) (x : Int32) (v : Nat) (z : Int32) : hMv := (o.f, o.t, o.h, o.gs, o.gv, o.gn, x, v, z)
theorem xNm_F {σ : zS} {p m : Nat} {f t d : Int32} (c k a : Nat) : zF (xNm σ p m f t d) c k a = if a = zn σ then (if c = 1 ∧ k = 4 then d else if c = 1 ∧ k = 3 then t else if c = 1 ∧ k = 2 then f else if c = 1 ∧ k = 1 then nI m else if c = 1 ∧ k = 0 then nI p else 0) else zF σ c k a := by
  unfold xNm
  rw [zF_zsI, zF_zsR, zF_zsF, zF_zsF, zF_zsF, zF_zsF, zF_zsF, zF_znC1]
  by_cases e : a = zn σ
  · simp only [e, and_true, if_true]
  · simp only [e, and_false, if_false]
theorem xNm_R {σ : zS} {p m : Nat} {f t d : Int32} (i : Nat) : zR (xNm σ p m f t d) 5 i = if i = 16 * p + m then some (zn σ) else zR σ 5 i := by
  unfold xNm
  rw [zR_zsI, zR_zsR]
  by_cases e : i = 16 * p + m
  · rw [if_pos ⟨rfl, e⟩, if_pos e]
  · rw [if_neg (fun q => e q.2), if_neg e]
    rfl
theorem xNm_I {σ : zS} {p m : Nat} {f t d : Int32} (a i : Nat) : zI (xNm σ p m f t d) a i = if a = 4 ∧ i = p then nI (m + 1) else zI σ a i := by
  unfold xNm
  rw [zI_zsI]
  rfl
theorem xNm_K {σ : zS} {p m : Nat} {f t d : Int32} (a : Nat) : zK (xNm σ p m f t d) a = if a = zn σ then 1 else zK σ a := by
  unfold xNm
  rfl
def mid1 (mid : Nat → Nat → Nat) (p m n : Nat) : Nat → Nat → Nat := fun p' m' => if p' = p ∧ m' = m then n else mid p' m'
theorem zC.Nm {σ : zS} {p m : Nat} {f t d : Int32} : zC σ (xNm (xFg σ) p m f t d) := by
  have h1 : zC σ (znC1 (xFg σ) 1) := ((zC.rf σ).Fg).C1
  have k1 : zK (znC1 (xFg σ) 1) (zn (xFg σ)) = 1 := by rw [zK_znC1, if_pos rfl]
  unfold xNm
  exact (((((((h1.Fm k1).Fm k1).Fm k1).Fm k1).Fm k1).R (by decide)).I (by decide))
theorem app_one' {xs : List hMv} {x y : hMv} {p : Nat} (h : (xs ++ [x])[p]? = some y) : (xs[p]? = some y ∧ p < xs.length) ∨ (p = xs.length ∧ y = x) := by
  by_cases c : p < xs.length
  · rw [List.getElem?_append_left c] at h
    exact Or.inl ⟨h, by omega⟩
  · rw [List.getElem?_append_right (by omega)] at h
    have h1 := (List.getElem?_eq_some_iff.mp h).1
    have h1 : p - xs.length < 1 := h1
    have h2 : p - xs.length = 0 := by omega
    rw [h2] at h
    exact Or.inr ⟨by omega, (Option.some.inj h).symm⟩
theorem bC_move {σ : zS} {ls G B : List Int32} {mvs : List (List hMv)} {mid : Nat → Nat → Nat} {p : Nat} {ms : List hMv} {f t d : Int32} (h : bC σ ls G B mvs mid) (hw : zWF σ) (hp : mvs[p]? = some ms) (h6 : ∀ (q : Nat) (l : List hMv), mvs[q]? = some l → l.length ≤ 6) :
    bC (xNm (xFg σ) p ms.length f t d) ls G B (mvs.set p (ms ++ [oNew f t d])) (mid1 mid p ms.length (zn σ)) := by
  have hw2 : zWF (xFg σ) := hw
  have hn : zn (xFg σ) = zn σ := rfl
  obtain ⟨⟨h1, h2, h3⟩, ⟨h4, h5⟩, ⟨h6a, h7, h8⟩, h9, h10, h11⟩ := h.Fg
  have ne : ∀ a c, zK (xFg σ) a = c → c ≠ 999 → a ≠ zn (xFg σ) := fun a c e hc => zWF_ne hw2 e hc
  have n2 := ne 2 2 (xk_2 h1) (by decide)
  have n17 := ne 17 0 (xk_17 h1) (by decide)
  have n21 := ne 21 4 (xk_21 h1) (by decide)
  have n16 := ne 16 100 h2.2.1 (by decide)
  have n4 := hp
  refine ⟨⟨h1.C1 hw2 1, ⟨?_, ?_, h2.2.2⟩, h3⟩, ⟨?_, ?_⟩, ⟨fun q y e => ?_, fun q y e => ?_, fun q y e => ?_⟩, fun q l hq => ?_, ?_, ?_⟩
  · show (if 8 = zn (xFg σ) then none else zG (xFg σ) 3 7 8) = some 16
    rw [if_neg (ne 8 3 (xk_8 h1) (by decide))]
    exact h2.1
  · rw [xNm_K, if_neg n16]; exact h2.2.1
  · unfold xP
    rw [xNm_F, if_neg n2]; exact h4
  · unfold xV
    rw [xNm_F, if_neg n2]; exact h5
  · rw [xNm_I, if_neg (fun z => absurd z.1 (by decide))]; exact h6a q y e
  · rw [xNm_I, if_neg (fun z => absurd z.1 (by decide))]; exact h7 q y e
  · rw [xNm_I, if_neg (fun z => absurd z.1 (by decide))]; exact h8 q y e
  · have old : ∀ (m : Nat) (o : hMv), (mvs[q]?).getD [] = (mvs[q]?).getD [] → (∃ l', mvs[q]? = some l' ∧ l'[m]? = some o) → ¬ (q = p ∧ m = ms.length) → zR (xNm (xFg σ) p ms.length f t d) 5 (16 * q + m) = some (mid1 mid p ms.length (zn σ) q m) ∧ zK (xNm (xFg σ) p ms.length f t d) (mid1 mid p ms.length (zn σ) q m) = 1 ∧ zF (xNm (xFg σ) p ms.length f t d) 1 0 (mid1 mid p ms.length (zn σ) q m) = nI q ∧ zF (xNm (xFg σ) p ms.length f t d) 1 1 (mid1 mid p ms.length (zn σ) q m) = nI m ∧ rMv (xNm (xFg σ) p ms.length f t d) G (mid1 mid p ms.length (zn σ) q m) o := by
      rintro m o - ⟨l', q1, q2⟩ hne
      obtain ⟨g1, g2⟩ := h9 q l' q1
      obtain ⟨m1, m2, m3, m4, m5⟩ := g2 m o q2
      have hl1 := h6 q l' q1
      have hl2 := h6 p ms hp
      have hm := (List.getElem?_eq_some_iff.mp q2).1
      have e0 : mid1 mid p ms.length (zn σ) q m = mid q m := if_neg hne
      have nm := ne _ 1 m2 (by decide)
      rw [e0]
      refine ⟨?_, ?_, ?_, ?_, m5.cg (fun k => ?_)⟩
      · rw [xNm_R, if_neg (fun z => hne ?_)]
        · exact m1
        · constructor <;> omega
      · rw [xNm_K, if_neg nm]; exact m2
      · rw [xNm_F, if_neg nm]; exact m3
      · rw [xNm_F, if_neg nm]; exact m4
      · rw [xNm_F, if_neg nm]
    rw [List.getElem?_set] at hq
    by_cases e : p = q
    · have hpl := (List.getElem?_eq_some_iff.mp hp).1
      rw [if_pos e, if_pos hpl] at hq
      have hq := (Option.some.inj hq).symm
      subst e
      rw [hq]
      refine ⟨?_, fun m o hm => ?_⟩
      · rw [xNm_I, if_pos ⟨rfl, rfl⟩, List.length_append]
        rfl
      · rcases app_one' hm with ⟨a1, a2⟩ | ⟨a1, a2⟩
        · exact old m o rfl ⟨ms, hp, a1⟩ (fun z => by have := z.2; omega)
        · have e0 : mid1 mid p ms.length (zn σ) p m = zn σ := if_pos ⟨rfl, a1⟩
          rw [e0, a1, a2]
          refine ⟨?_, ?_, ?_, ?_, ?_⟩
          · rw [xNm_R, if_pos rfl, hn]
          · rw [xNm_K, if_pos hn.symm]
          · rw [xNm_F, if_pos hn.symm]; rfl
          · rw [xNm_F, if_pos hn.symm]; rfl
          · refine ⟨?_, ?_, ?_, ?_, ?_, ?_, ?_, ?_, ?_, fun q => absurd rfl q⟩ <;> (rw [xNm_F, if_pos hn.symm]; rfl)
    · rw [if_neg e] at hq
      refine ⟨?_, fun m o hm => old m o rfl ⟨l, hq, hm⟩ (fun z => e z.1.symm)⟩
      rw [xNm_I, if_neg (fun z => e z.2.symm)]
      exact (h9 q l hq).1
  · unfold xFz
    rw [xNm_F, if_neg n17]; exact h10
  · rw [xNm_F, if_neg n21]; exact h11
/-- the last move of a process told anew: fields of it alone have changed -/
theorem bC_last {σ σ' : zS} {ls G B : List Int32} {mvs : List (List hMv)} {mid : Nat → Nat → Nat} {p : Nat} {ms : List hMv} {o o' : hMv} (h : bC σ ls G B (mvs.set p (ms ++ [o])) mid) (hp : p < mvs.length) (h6 : p < 2 ^ 31) (h16 : ms.length < 2 ^ 31) (hb : ∀ (q : Nat) (l : List hMv), (mvs.set p (ms ++ [o]))[q]? = some l → q < 2 ^ 31 ∧ l.length < 2 ^ 31)
    (e1 : zK σ' = zK σ) (e2 : zL σ' = zL σ) (e3 : zG σ' = zG σ) (e4 : zI σ' = zI σ) (e5 : zR σ' = zR σ) (e6 : ∀ c k a, c ≠ 1 → c ≠ 3 → zF σ' c k a = zF σ c k a) (e7 : ∀ k a, a ≠ mid p ms.length → zF σ' 1 k a = zF σ 1 k a) (e8 : ∀ k, k < 2 → zF σ' 1 k (mid p ms.length) = zF σ 1 k (mid p ms.length))
    (hr : rMv σ G (mid p ms.length) o → rMv σ' G (mid p ms.length) o') : bC σ' ls G B (mvs.set p (ms ++ [o'])) mid := by
  obtain ⟨⟨h1, h2, h3⟩, ⟨h4, h5⟩, ⟨h6a, h7, h8⟩, h9, h10, h11⟩ := h
  have hl : (mvs.set p (ms ++ [o]))[p]? = some (ms ++ [o]) := by rw [List.getElem?_set, if_pos rfl, if_pos hp]
  obtain ⟨-, gL⟩ := h9 p _ hl
  have hla : (ms ++ [o])[ms.length]? = some o := by rw [List.getElem?_append_right (Nat.le_refl _), Nat.sub_self]; rfl
  obtain ⟨l1, l2, l3, l4, l5⟩ := gL ms.length o hla
  have old : ∀ (q : Nat) (l : List hMv), (mvs.set p (ms ++ [o]))[q]? = some l → ∀ (m : Nat) (x : hMv), l[m]? = some x → ¬ (q = p ∧ m = ms.length) → zR σ' 5 (16 * q + m) = some (mid q m) ∧ zK σ' (mid q m) = 1 ∧ zF σ' 1 0 (mid q m) = nI q ∧ zF σ' 1 1 (mid q m) = nI m ∧ rMv σ' G (mid q m) x := by
    intro q l hq m x hm hne
    obtain ⟨m1, m2, m3, m4, m5⟩ := (h9 q l hq).2 m x hm
    obtain ⟨b1, b2⟩ := hb q l hq
    have hml := (List.getElem?_eq_some_iff.mp hm).1
    have nm : mid q m ≠ mid p ms.length := by
      intro e
      rw [e, l3] at m3
      rw [e, l4] at m4
      exact hne ⟨((nI_eq h6 b1).mp m3).symm, ((nI_eq h16 (by omega)).mp m4).symm⟩
    rw [e1, e5, e7 0 _ nm, e7 1 _ nm]
    exact ⟨m1, m2, m3, m4, m5.cg (fun k => e7 k _ nm)⟩
  refine ⟨⟨⟨fun q hq => by rw [e1]; exact h1.1 q hq, fun q hq => by rw [e2]; exact h1.2.1 q hq, fun q hq => by rw [e3]; exact h1.2.2 q hq⟩, ⟨by rw [e3]; exact h2.1, by rw [e1]; exact h2.2.1, h2.2.2⟩, by rw [e2]; exact h3⟩, ⟨(e6 2 5 2 (by decide) (by decide)).trans h4, (e6 2 6 2 (by decide) (by decide)).trans h5⟩, ⟨by rw [e4]; exact h6a, by rw [e4]; exact h7, by rw [e4]; exact h8⟩, fun q l hq => ?_, (e6 0 3 17 (by decide) (by decide)).trans h10, (e6 4 11 21 (by decide) (by decide)).trans h11⟩
  by_cases e : p = q
  · subst e
    rw [List.getElem?_set, if_pos rfl, if_pos hp] at hq
    have hq := (Option.some.inj hq).symm
    rw [hq]
    refine ⟨?_, fun m x hm => ?_⟩
    · rw [e4, (h9 p _ hl).1, List.length_append, List.length_append]
      rfl
    · rcases app_one' hm with ⟨a1, a2⟩ | ⟨a1, a2⟩
      · exact old p _ hl m x (by rw [List.getElem?_append_left a2]; exact a1) (fun z => by have := z.2; omega)
      · rw [a1, a2, e1, e5, e8 0 (by decide), e8 1 (by decide)]
        exact ⟨l1, l2, l3, l4, hr l5⟩
  · have hq2 : (mvs.set p (ms ++ [o]))[q]? = some l := by
      rw [List.getElem?_set, if_neg e] at hq ⊢
      exact hq
    exact ⟨by rw [e4]; exact (h9 q l hq2).1, fun m x hm => old q l hq2 m x hm (fun z => e z.1.symm)⟩
