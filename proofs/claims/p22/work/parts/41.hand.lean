/-! the hand as a whole; number as lists -/
def hMs (σ : zS) (mvs : List (List hMv)) : Prop := ∃ ma, zG σ 6 3 30 = some ma ∧ iR σ 5 ma (fun b ms => iII σ b (ms.map hMv.row)) mvs
def hSt (σ : zS) (n : Nat) : Prop := ∃ ta stl, zG σ 6 5 30 = some ta ∧ iIII σ ta stl ∧ stl.length = n
theorem hMs.y {σ σ' : zS} {mvs : List (List hMv)} (h : hMs σ mvs) (h30 : 30 < zn σ) (hx : zY σ σ') : hMs σ' mvs := by
  obtain ⟨ma, h1, h2⟩ := h
  exact ⟨ma, (((hx.2 30 h30).2.2.2.2 6 3).2 (by omega)).trans h1, iR.y h2 hx (fun _ _ q => iII.y q hx)⟩
theorem hSt.x {σ σ' : zS} {n : Nat} (h : hSt σ n) (h30 : 30 < zn σ) (hx : zX σ σ') : hSt σ' n := by
  obtain ⟨ta, stl, h1, h2, h3⟩ := h
  exact ⟨ta, stl, ((hx.2 30 h30).2.2.2.2 6 5).2.trans h1, iIII.x h2 hx, h3⟩
theorem hHd.x {σ σ' : zS} {rows : List (List Int32)} (h : hHd σ rows) (hx : zX σ σ') : hHd σ' rows := by
  obtain ⟨h1, h2, ⟨sa, h3, h4⟩, h5⟩ := h
  obtain ⟨b1, b2, b3, b4, b5⟩ := hx.2 30 h2
  refine ⟨b1.trans h1, Nat.lt_of_lt_of_le h2 hx.1, ⟨sa, (b5 6 4).2.trans h3, iII.x h4 hx⟩, fun k hk => ?_⟩
  obtain ⟨fa, fr, c1, c2, c3⟩ := h5 k hk
  exact ⟨fa, fr, (b5 6 k).2.trans c1, c2.x hx, c3⟩
/-- the hand in a heap: since σ0 only its own fields and new things have changed -/
def hAll (σ0 σ : zS) (L : Nat) (G : List Int32) (mvs : List (List hMv)) (rows : List (List Int32)) (n : Nat) : Prop := zY σ0 σ ∧ hGr σ L G ∧ hHd σ rows ∧ hMs σ mvs ∧ hSt σ n
theorem hAll.x {σ0 σ σ' : zS} {L n : Nat} {G : List Int32} {mvs : List (List hMv)} {rows : List (List Int32)} (h : hAll σ0 σ L G mvs rows n) (hx : zX σ σ') : hAll σ0 σ' L G mvs rows n :=
  ⟨h.1.tr hx.y, h.2.1.x hx, h.2.2.1.x hx, h.2.2.2.1.y h.2.1.2.1 hx.y, h.2.2.2.2.x h.2.1.2.1 hx⟩
theorem hAll.num {σ0 σ σ' : zS} {L n : Nat} {G : List Int32} {mvs : List (List hMv)} {rows rows' : List (List Int32)} (h : hAll σ0 σ L G mvs rows n) (hy : zY σ σ') (hh : hHd σ' rows') (h5 : zG σ' 6 5 30 = zG σ 6 5 30) : hAll σ0 σ' L G mvs rows' n := by
  refine ⟨h.1.tr hy, h.2.1.y hy, hh, h.2.2.2.1.y h.2.1.2.1 hy, ?_⟩
  obtain ⟨ta, stl, h1, h2, h3⟩ := h.2.2.2.2
  exact ⟨ta, stl, h5.trans h1, iIII.y h2 hy, h3⟩
/-- a state numbered -/
def hAdd (rows : List (List Int32)) (st : List Int32) : List (List Int32) := if st ∈ rows then rows else rows ++ [st]
theorem hFx_none {rows : List (List Int32)} {st : List Int32} (h : st ∉ rows) : hFx rows st none := fun t e => h (List.mem_of_getElem? e)
theorem hFx_some {st : List Int32} : ∀ (rows : List (List Int32)), st ∈ rows → ∃ s, hFx rows st (some s)
  | [], h => (List.not_mem_nil h).elim
  | r :: rest, h => by
    by_cases e : r = st
    · exact ⟨0, by rw [e]; rfl, fun t ht => absurd ht (Nat.not_lt_zero _)⟩
    · have h2 : st ∈ rest := (List.mem_cons.mp h).resolve_left (fun q => e q.symm)
      obtain ⟨s, h3, h4⟩ := hFx_some rest h2
      refine ⟨s + 1, by rw [List.getElem?_cons_succ]; exact h3, fun t ht => ?_⟩
      cases t with
      | zero => rw [List.getElem?_cons_zero]; exact fun q => e (Option.some.inj q)
      | succ t => rw [List.getElem?_cons_succ]; exact h4 t (by omega)
theorem hAdd_le (rows : List (List Int32)) (st : List Int32) : rows.length ≤ (hAdd rows st).length ∧ (hAdd rows st).length ≤ rows.length + 1 := by
  unfold hAdd
  by_cases h : st ∈ rows
  · rw [if_pos h]; exact ⟨Nat.le_refl _, Nat.le_succ _⟩
  · rw [if_neg h, List.length_append]; exact ⟨Nat.le_add_right _ _, Nat.le_refl _⟩
theorem hAdd_all {rows : List (List Int32)} {st : List Int32} {P : List Int32 → Prop} (h : ∀ r, r ∈ rows → P r) (hs : P st) : ∀ r, r ∈ hAdd rows st → P r := by
  intro r hr
  unfold hAdd at hr
  by_cases q : st ∈ rows
  · rw [if_pos q] at hr; exact h r hr
  · rw [if_neg q] at hr
    rcases List.mem_append.mp hr with z | z
    · exact h r z
    · rw [List.mem_singleton.mp z]; exact hs
theorem hAdd_pre {rows : List (List Int32)} {st : List Int32} {i : Nat} {r : List Int32} (h : rows[i]? = some r) : (hAdd rows st)[i]? = some r := by
  unfold hAdd
  by_cases q : st ∈ rows
  · rw [if_pos q]; exact h
  · rw [if_neg q, List.getElem?_append_left (List.getElem?_eq_some_iff.mp h).1]; exact h
theorem hDn_len {L : Nat} {G st r : List Int32} {p : Nat} {m : hMv} (h : hDn L G st p m = some r) : r.length = st.length := by
  unfold hDn at h
  by_cases c1 : m.ds = 0
  · rw [if_pos c1] at h
    rw [← Option.some.inj h, List.length_set]
  · rw [if_neg c1] at h
    by_cases c2 : hVal L st m < 0
    · rw [if_pos c2] at h; cases h
    · rw [if_neg c2] at h
      by_cases c3 : hVal L st m ≤ (G[m.dv]?).getD 0
      · rw [if_pos c3] at h
        rw [← Option.some.inj h, List.length_set, List.length_set]
      · rw [if_neg c3] at h; cases h
/-- the target of a pair -/
def hPr (L : Nat) (G st beh : List Int32) (one : hMv) (b : Nat) (o : hMv) : Option (List Int32) := if o.h = one.h then (if hOpn L G st b o = true then hDn L G beh b o else none) else none
def hAddO (rows : List (List Int32)) : Option (List Int32) → List (List Int32)
  | some t => hAdd rows t
  | none => rows
def hKs (L : Nat) (G st beh : List Int32) (one : hMv) (b : Nat) : List hMv → List (List Int32) → List (List Int32)
  | [], rows => rows
  | o :: r, rows => hKs L G st beh one b r (hAddO rows (hPr L G st beh one b o))
/-- a triangle's number: what the copies of a growing row cost -/
def hTri : Nat → Nat
  | 0 => 0
  | n + 1 => hTri n + (n + 1)
/-- a move of the hand as it may be told -/
def hMok (L : Nat) (G : List Int32) (m : hMv) : Prop := (m.gs ≠ 0 → m.gv < G.length) ∧ (m.ds ≠ 0 → m.dv < G.length)
