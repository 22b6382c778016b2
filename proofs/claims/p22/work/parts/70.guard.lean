/-! guard and deed while the law builds -/
theorem sF3_F (σ : zS) (a k1 k2 k3 : Nat) (x y z : Int32) (k b : Nat) : zF (zsF (zsF (zsF (xFg σ) 1 k1 a x) 1 k2 a y) 1 k3 a z) 1 k b = if k = k3 ∧ b = a then z else if k = k2 ∧ b = a then y else if k = k1 ∧ b = a then x else zF σ 1 k b := by
  rw [zF_zsF, zF_zsF, zF_zsF, Fg_F (by decide)]
  simp only [true_and]
theorem set_bd {mvs : List (List hMv)} {p : Nat} {l : List hMv} (h5 : mvs.length = 5) (hl : l.length ≤ 7) (h6 : ∀ (q : Nat) (l : List hMv), mvs[q]? = some l → l.length ≤ 6) : ∀ (q : Nat) (l' : List hMv), (mvs.set p l)[q]? = some l' → q < 2 ^ 31 ∧ l'.length < 2 ^ 31 := by
  intro q l' hq
  have h1 := (List.getElem?_eq_some_iff.mp hq).1
  rw [List.length_set] at h1
  rw [List.getElem?_set] at hq
  by_cases e : p = q
  · rw [if_pos e] at hq
    by_cases e2 : p < mvs.length
    · rw [if_pos e2] at hq
      rw [← Option.some.inj hq]
      omega
    · rw [if_neg e2] at hq
      cases hq
  · rw [if_neg e] at hq
    have := h6 q l' hq
    omega
theorem bC_at {σ : zS} {ls G B : List Int32} {mvs : List (List hMv)} {mid : Nat → Nat → Nat} {p : Nat} {ms : List hMv} {o : hMv} (h : bC σ ls G B (mvs.set p (ms ++ [o])) mid) (hp : p < mvs.length) : zI σ 4 p = nI (ms.length + 1) ∧ zR σ 5 (16 * p + ms.length) = some (mid p ms.length) ∧ zK σ (mid p ms.length) = 1 ∧ rMv σ G (mid p ms.length) o := by
  have hl : (mvs.set p (ms ++ [o]))[p]? = some (ms ++ [o]) := by rw [List.getElem?_set, if_pos rfl, if_pos hp]
  obtain ⟨g0, gL⟩ := h.2.2.2.1 p _ hl
  have hla : (ms ++ [o])[ms.length]? = some o := by rw [List.getElem?_append_right (Nat.le_refl _), Nat.sub_self]; rfl
  obtain ⟨l1, l2, l3, l4, l5⟩ := gL ms.length o hla
  rw [List.length_append] at g0
  exact ⟨g0, l1, l2, l5⟩
theorem bC_guard {σ : zS} {ls G B : List Int32} {mvs : List (List hMv)} {mid : Nat → Nat → Nat} {p v : Nat} {ms : List hMv} {o : hMv} {x z : Int32} (h : bC σ ls G B (mvs.set p (ms ++ [o])) mid) (h5 : mvs.length = 5) (hp : p < 5) (hms : ms.length ≤ 6) (h6 : ∀ (q : Nat) (l : List hMv), mvs[q]? = some l → l.length ≤ 6) :
    bC (zsF (zsF (zsF (xFg σ) 1 5 (mid p ms.length) x) 1 6 (mid p ms.length) (nI v)) 1 7 (mid p ms.length) z) ls G B (mvs.set p (ms ++ [oGd o x v z])) mid ∧ zC σ (zsF (zsF (zsF (xFg σ) 1 5 (mid p ms.length) x) 1 6 (mid p ms.length) (nI v)) 1 7 (mid p ms.length) z) := by
  obtain ⟨a0, a1, a2, a3⟩ := bC_at h (by omega)
  have c1 : zC σ (xFg σ) := (zC.rf σ).Fg
  refine ⟨bC_last h (by omega) (by omega) (by omega) (set_bd h5 (by rw [List.length_append]; show ms.length + 1 ≤ 7; omega) h6) rfl rfl rfl rfl rfl (fun c k a hc1 hc3 => ?_) (fun k a ha => ?_) (fun k hk => ?_) (fun hr => ?_), ((c1.Fm a2).Fm a2).Fm a2⟩
  · rw [zF_zsF, if_neg (fun q => hc1 q.1), zF_zsF, if_neg (fun q => hc1 q.1), zF_zsF, if_neg (fun q => hc1 q.1), Fg_F hc3]
  · rw [sF3_F, if_neg (fun q => ha q.2), if_neg (fun q => ha q.2), if_neg (fun q => ha q.2)]
  · rw [sF3_F, if_neg (by omega), if_neg (by omega), if_neg (by omega)]
  · obtain ⟨r2, r3, r4, r5, r6, r7, r8, r9, r10, r11⟩ := hr
    have e : ∀ k, k ≠ 5 → k ≠ 6 → k ≠ 7 → zF (zsF (zsF (zsF (xFg σ) 1 5 (mid p ms.length) x) 1 6 (mid p ms.length) (nI v)) 1 7 (mid p ms.length) z) 1 k (mid p ms.length) = zF σ 1 k (mid p ms.length) := fun k h1 h2 h3 => by rw [sF3_F, if_neg (fun q => h3 q.1), if_neg (fun q => h2 q.1), if_neg (fun q => h1 q.1)]
    refine ⟨(e 2 (by decide) (by decide) (by decide)).trans r2, (e 3 (by decide) (by decide) (by decide)).trans r3, (e 4 (by decide) (by decide) (by decide)).trans r4, ?_, ?_, ?_, (e 8 (by decide) (by decide) (by decide)).trans r8, (e 9 (by decide) (by decide) (by decide)).trans r9, (e 10 (by decide) (by decide) (by decide)).trans r10, fun q => (e 11 (by decide) (by decide) (by decide)).trans (r11 q)⟩
    · rw [sF3_F, if_neg (fun q => absurd q.1 (by decide)), if_neg (fun q => absurd q.1 (by decide)), if_pos ⟨rfl, rfl⟩]
      rfl
    · rw [sF3_F, if_neg (fun q => absurd q.1 (by decide)), if_pos ⟨rfl, rfl⟩]
      rfl
    · rw [sF3_F, if_pos ⟨rfl, rfl⟩]
      rfl
theorem sF4_F (σ : zS) (a k1 k2 k3 k4 : Nat) (x y z w : Int32) (k b : Nat) : zF (zsF (zsF (zsF (zsF (xFg σ) 1 k1 a x) 1 k2 a y) 1 k3 a z) 1 k4 a w) 1 k b = if k = k4 ∧ b = a then w else if k = k3 ∧ b = a then z else if k = k2 ∧ b = a then y else if k = k1 ∧ b = a then x else zF σ 1 k b := by
  rw [zF_zsF, sF3_F]
  simp only [true_and]
theorem bC_deed {σ : zS} {ls G B : List Int32} {mvs : List (List hMv)} {mid : Nat → Nat → Nat} {p v : Nat} {ms : List hMv} {o : hMv} {x z g : Int32} (h : bC σ ls G B (mvs.set p (ms ++ [o])) mid) (h5 : mvs.length = 5) (hp : p < 5) (hms : ms.length ≤ 6) (h6 : ∀ (q : Nat) (l : List hMv), mvs[q]? = some l → l.length ≤ 6) (hg : G[v]? = some g) :
    bC (zsF (zsF (zsF (zsF (xFg σ) 1 8 (mid p ms.length) x) 1 9 (mid p ms.length) (nI v)) 1 10 (mid p ms.length) z) 1 11 (mid p ms.length) (zI σ 6 v)) ls G B (mvs.set p (ms ++ [oDd o x v z])) mid ∧ zC σ (zsF (zsF (zsF (zsF (xFg σ) 1 8 (mid p ms.length) x) 1 9 (mid p ms.length) (nI v)) 1 10 (mid p ms.length) z) 1 11 (mid p ms.length) (zI σ 6 v)) := by
  obtain ⟨a0, a1, a2, a3⟩ := bC_at h (by omega)
  have hgv := h.2.2.1.2.1 v g hg
  have c1 : zC σ (xFg σ) := (zC.rf σ).Fg
  refine ⟨bC_last h (by omega) (by omega) (by omega) (set_bd h5 (by rw [List.length_append]; show ms.length + 1 ≤ 7; omega) h6) rfl rfl rfl rfl rfl (fun c k a hc1 hc3 => ?_) (fun k a ha => ?_) (fun k hk => ?_) (fun hr => ?_), (((c1.Fm a2).Fm a2).Fm a2).Fm a2⟩
  · rw [zF_zsF, if_neg (fun q => hc1 q.1), zF_zsF, if_neg (fun q => hc1 q.1), zF_zsF, if_neg (fun q => hc1 q.1), zF_zsF, if_neg (fun q => hc1 q.1), Fg_F hc3]
  · rw [sF4_F, if_neg (fun q => ha q.2), if_neg (fun q => ha q.2), if_neg (fun q => ha q.2), if_neg (fun q => ha q.2)]
  · rw [sF4_F, if_neg (by omega), if_neg (by omega), if_neg (by omega), if_neg (by omega)]
  · obtain ⟨r2, r3, r4, r5, r6, r7, r8, r9, r10, r11⟩ := hr
    have e : ∀ k, k < 8 → zF (zsF (zsF (zsF (zsF (xFg σ) 1 8 (mid p ms.length) x) 1 9 (mid p ms.length) (nI v)) 1 10 (mid p ms.length) z) 1 11 (mid p ms.length) (zI σ 6 v)) 1 k (mid p ms.length) = zF σ 1 k (mid p ms.length) := fun k h1 => by rw [sF4_F, if_neg (by omega), if_neg (by omega), if_neg (by omega), if_neg (by omega)]
    refine ⟨(e 2 (by decide)).trans r2, (e 3 (by decide)).trans r3, (e 4 (by decide)).trans r4, (e 5 (by decide)).trans r5, (e 6 (by decide)).trans r6, (e 7 (by decide)).trans r7, ?_, ?_, ?_, fun _ => ?_⟩
    · rw [sF4_F, if_neg (fun q => absurd q.1 (by decide)), if_neg (fun q => absurd q.1 (by decide)), if_neg (fun q => absurd q.1 (by decide)), if_pos ⟨rfl, rfl⟩]
      rfl
    · rw [sF4_F, if_neg (fun q => absurd q.1 (by decide)), if_neg (fun q => absurd q.1 (by decide)), if_pos ⟨rfl, rfl⟩]
      rfl
    · rw [sF4_F, if_neg (fun q => absurd q.1 (by decide)), if_pos ⟨rfl, rfl⟩]
      rfl
    · rw [sF4_F, if_pos ⟨rfl, rfl⟩, hgv]
      show g = (G[v]?).getD 0
      rw [hg]
      rfl
/-- what the law chooses -/
def lsOk (ls : List Int32) : Prop := ∀ p, p < ls.length → ∃ c, 1 ≤ c ∧ c ≤ 4 ∧ ls[p]? = some (nI c)
def gOk (G B : List Int32) : Prop := B.length = G.length ∧ ∀ v, v < G.length → ∃ g b, 1 ≤ g ∧ g ≤ 3 ∧ b ≤ g ∧ G[v]? = some (nI g) ∧ B[v]? = some (nI b)
def mOk (mvs : List (List hMv)) (V : Nat) : Prop := mvs.length = 5 ∧ ∀ (q : Nat) (l : List hMv), mvs[q]? = some l → l.length ≤ 6 ∧ ∀ o, o ∈ l → oMv V o
theorem lsOk.app {ls : List Int32} {c : Nat} (h : lsOk ls) (h1 : 1 ≤ c) (h4 : c ≤ 4) : lsOk (ls ++ [nI c]) := by
  intro p hp
  rw [List.length_append] at hp
  have hp : p < ls.length + 1 := hp
  by_cases e : p < ls.length
  · rw [List.getElem?_append_left e]
    exact h p e
  · rw [List.getElem?_append_right (by omega), show p - ls.length = 0 by omega]
    exact ⟨c, h1, h4, rfl⟩
theorem gOk.app {G B : List Int32} {g b : Nat} (h : gOk G B) (h1 : 1 ≤ g) (h3 : g ≤ 3) (hb : b ≤ g) : gOk (G ++ [nI g]) (B ++ [nI b]) := by
  obtain ⟨e0, e1⟩ := h
  refine ⟨by rw [List.length_append, List.length_append, e0]; rfl, fun v hv => ?_⟩
  rw [List.length_append] at hv
  have hv : v < G.length + 1 := hv
  by_cases e : v < G.length
  · rw [List.getElem?_append_left e, List.getElem?_append_left (by omega)]
    exact e1 v e
  · rw [List.getElem?_append_right (by omega), List.getElem?_append_right (by omega), show v - G.length = 0 by omega, show v - B.length = 0 by omega]
    exact ⟨g, b, h1, h3, hb, rfl, rfl⟩
theorem mOk.set {mvs : List (List hMv)} {V p : Nat} {l : List hMv} (h : mOk mvs V) (h6 : l.length ≤ 6) (ho : ∀ o, o ∈ l → oMv V o) : mOk (mvs.set p l) V := by
  refine ⟨by rw [List.length_set]; exact h.1, fun q l' hq => ?_⟩
  rw [List.getElem?_set] at hq
  by_cases e : p = q
  · rw [if_pos e] at hq
    by_cases e2 : p < mvs.length
    · rw [if_pos e2] at hq
      rw [← Option.some.inj hq]
      exact ⟨h6, ho⟩
    · rw [if_neg e2] at hq
      cases hq
  · rw [if_neg e] at hq
    exact h.2 q l' hq
