/-! both explorings: their room, what the class's leaves -/
def xZ (σ σ' : zS) : Prop := zn σ' + xLen σ ≤ zn σ + xLen σ' ∧ xLen σ ≤ xLen σ' ∧ zn σ ≤ zn σ'
theorem xZ.rf (σ : zS) : xZ σ σ := ⟨Nat.le_refl _, Nat.le_refl _, Nat.le_refl _⟩
theorem xZ.tr {σ σ1 σ2 : zS} (h : xZ σ σ1) (h2 : xZ σ1 σ2) : xZ σ σ2 := by
  obtain ⟨a1, a2, a3⟩ := h
  obtain ⟨b1, b2, b3⟩ := h2
  exact ⟨by omega, by omega, by omega⟩
theorem xStp_z {σ : zS} {pk n T s : Nat} {po : Nat → Nat} {k mov : Int32} (h : xI σ pk n T po) (hT : T ≤ 512000) : xZ σ (xStp σ s k mov) := by
  obtain ⟨h1, h2, h3, h4, h5, h6, h7, h8, h9, h10⟩ := id h
  rcases xStp_way h (by omega) s k mov with ⟨q1, q2, q3⟩ | ⟨g, q1, q2, q3, ⟨q4, q5⟩ | ⟨q4, q5⟩⟩
  · rw [q3]
    exact xZ.rf σ
  · rw [q5]
    unfold xZ
    rw [xAdd_zn, q2.zn, xLen_add, q2.lenO]
    exact xZ.rf σ
  · rw [q5]
    unfold xZ
    rw [xAdd_zn, xGrow_zn, q2.zn, xLen_add, xGrow_lenO (q2.wf h10) (q2.sh h1), q2.len pk, xLen_eq h2]
    exact ⟨by omega, by omega, by omega⟩
theorem xRun_z {s : Nat} : ∀ (l : List (Int32 × Int32)) {σ : zS} {pk n T : Nat} {po : Nat → Nat}, xI σ pk n T po → T + l.length ≤ 512000 → xZ σ (xRun s l σ) ∧ ∃ pk' n' T' po', xI (xRun s l σ) pk' n' T' po' ∧ T' ≤ T + l.length
  | [], σ, pk, n, T, po, h, _ => ⟨xZ.rf σ, pk, n, T, po, h, Nat.le_refl _⟩
  | p :: l, σ, pk, n, T, po, h, hT => by
    rw [List.length_cons] at hT ⊢
    obtain ⟨pk1, n1, T1, po1, i1, -, -, -, i5, -⟩ := xI_stp (s := s) h (by omega) p.1 p.2
    have z := xStp_z (s := s) (k := p.1) (mov := p.2) h (by omega)
    obtain ⟨z2, pk2, n2, T2, po2, j1, j2⟩ := xRun_z l i1 (by omega)
    exact ⟨z.tr z2, pk2, n2, T2, po2, j1, by omega⟩
theorem xOf_z {σ0 σ : zS} {P pk n T s : Nat} {po mc : Nat → Nat} {mid : Nat → Nat → Nat} {k : Int32} (hpro : xPro σ0 P mc mid) (h : xI σ pk n T po) (hT : T + 324 ≤ 512000) : xZ σ (xOf σ0 P mc mid k s σ) ∧ ∃ pk' n' T' po', xI (xOf σ0 P mc mid k s σ) pk' n' T' po' ∧ T' ≤ T + 324 := by
  obtain ⟨o1, o2⟩ := lOf_ok (k := k) hpro
  have h1 := xI_set (xI_set h (Or.inl rfl) s 0) (Or.inr rfl) s (xT σ)
  obtain ⟨z, pk', n', T', po', j1, j2⟩ := xRun_z (s := s) (lOf σ0 P mc mid k) h1 (by omega)
  rw [xOf_run]
  exact ⟨z, pk', n', T', po', xI_set j1 (Or.inr rfl) _ _, by omega⟩
set_option maxRecDepth 100000 in
theorem xFl_z {σ0 : zS} {P : Nat} {mc : Nat → Nat} {mid : Nat → Nat → Nat} (hpro : xPro σ0 P mc mid) : ∀ (d s : Nat) {σ : zS} {pk n T : Nat} {po : Nat → Nat}, xI σ pk n T po → T + 324 * d ≤ 512000 → xZ σ (xFl σ0 P mc mid d s σ) ∧ ∃ pk' n' T' po', xI (xFl σ0 P mc mid d s σ) pk' n' T' po' ∧ T' ≤ T + 324 * d
  | 0, s, σ, pk, n, T, po, h, hT => ⟨xZ.rf σ, pk, n, T, po, h, Nat.le_refl _⟩
  | d + 1, s, σ, pk, n, T, po, h, hT => by
    unfold xFl
    by_cases c : nI s < xS σ ∧ zF σ 3 10 8 = 0
    · rw [if_pos c]
      obtain ⟨z, pk1, n1, T1, po1, j1, j2⟩ := xOf_z (s := s) (k := zI σ 9 s) hpro h (by omega)
      obtain ⟨z2, pk2, n2, T2, po2, i1, i2⟩ := xFl_z hpro d (s + 1) j1 (by omega)
      exact ⟨z.tr z2, pk2, n2, T2, po2, i1, by omega⟩
    · rw [if_neg c]
      exact ⟨xZ.rf σ, pk, n, T, po, h, by omega⟩
/-- the class explored -/
def xEx (σ : zS) (P pk n : Nat) (fs dep par pst : Nat → Nat) (E : Nat → List Nat) : Prop :=
  xSh σ ∧ (xP σ = nI P ∧ P ≤ 3) ∧ (xS σ = nI n ∧ 1 ≤ n) ∧ (xT σ = nI (fs n) ∧ fs n < 2 ^ 20) ∧ xGr σ pk n (fs n) fs E ∧ (∀ s, s < n → (zI σ 13 s &&& xEv P = 0 → E s = []) ∧ (E s = [] → zI σ 13 s = 0)) ∧
  (∀ s, s < n → ∀ (j g : Nat), (E s)[j]? = some g → (∃ p, p < P ∧ xPart (zI σ pk (fs s + j)) 1 = nI p) ∧ dep g ≤ dep s + 1) ∧ xEd σ n n dep par pst E
theorem xEx_of {σ : zS} {P pk n T : Nat} {po : Nat → Nat} (h : xI σ pk n T po) (hb : xEB P σ pk n T n) (h1 : 1 ≤ n) (hT : T ≤ 129600) (hP : xP σ = nI P) (hP3 : P ≤ 3) : ∃ fs dep par pst E, xEx σ P pk n fs dep par pst E := by
  obtain ⟨fs, dep, par, pst, E, ⟨g1, g2, g3⟩, hd, f1, f0, fT, -, -, h14⟩ := hb
  obtain ⟨a1, a2, a3, a4, a5, a6, a7, a8, a9, a10⟩ := h
  have fm : ∀ s, s ≤ n → fs s ≤ fs n := fun s hs => by
    have := fs_mono f1 (n - s) s (by omega)
    rw [show s + (n - s) = n by omega] at this
    exact this
  refine ⟨fs, dep, par, pst, E, a1, ⟨hP, hP3⟩, ⟨a4, h1⟩, ⟨by rw [← fT]; exact a6, by omega⟩, ⟨a2, a5, by omega, by omega, fun s hs => ?_, f1, fm, fun s hs j t hj => ⟨(g2 s hs j t hj).1, (g2 s hs j t hj).2.1⟩⟩, g3, fun s hs j g hj => ⟨(g2 s hs j g hj).2.2.1, (g2 s hs j g hj).2.2.2⟩, hd⟩
  by_cases e : s < n
  · exact g1 s e
  · rw [show s = n by omega, ← fT]
    exact h14 (by omega)
/-- what the explored class is told by -/
def xQ (pk : Nat) (σ σ' : zS) : Prop := (∀ a, a ≤ 29 ∨ a = pk → zK σ' a = zK σ a ∧ zL σ' a = zL σ a) ∧ (∀ c k a, a ≤ 29 → zG σ' c k a = zG σ c k a) ∧ (∀ c k a, a ≤ 29 → c = 2 ∨ c = 3 → zF σ' c k a = zF σ c k a) ∧ ∀ a, (2 < a ∧ a ≤ 15) ∨ a = pk → zI σ' a = zI σ a
theorem xQ.rf (pk : Nat) (σ : zS) : xQ pk σ σ := ⟨fun _ _ => ⟨rfl, rfl⟩, fun _ _ _ _ => rfl, fun _ _ _ _ _ => rfl, fun _ _ => rfl⟩
theorem xQ.tr {pk : Nat} {σ σ1 σ2 : zS} (h : xQ pk σ σ1) (h2 : xQ pk σ1 σ2) : xQ pk σ σ2 := ⟨fun a ha => ⟨(h2.1 a ha).1.trans (h.1 a ha).1, (h2.1 a ha).2.trans (h.1 a ha).2⟩, fun c k a ha => (h2.2.1 c k a ha).trans (h.2.1 c k a ha), fun c k a ha hc => (h2.2.2.1 c k a ha hc).trans (h.2.2.1 c k a ha hc), fun a ha => (h2.2.2.2 a ha).trans (h.2.2.2 a ha)⟩
theorem xQ.sh {pk : Nat} {σ σ' : zS} (h : xQ pk σ σ') (hs : xSh σ) : xSh σ' := by
  have k0 : ∀ q ∈ xKs, q.1 ≤ 29 := by decide
  have k1 : ∀ q ∈ xLs, q.1 ≤ 29 := by decide
  have k2 : ∀ q ∈ xGs, q.2.2.1 ≤ 29 := by decide
  exact ⟨fun q hq => ((h.1 _ (Or.inl (k0 q hq))).1).trans (hs.1 q hq), fun q hq => ((h.1 _ (Or.inl (k1 q hq))).2).trans (hs.2.1 q hq), fun q hq => (h.2.1 _ _ _ (k2 q hq)).trans (hs.2.2 q hq)⟩
theorem xQ.gr {pk : Nat} {σ σ' : zS} (h : xQ pk σ σ') {n T : Nat} {fs : Nat → Nat} {E : Nat → List Nat} (hg : xGr σ pk n T fs E) : xGr σ' pk n T fs E := by
  obtain ⟨⟨p1, p2, p3⟩, g2, g3, g4, g5, g6, g7, g8⟩ := hg
  have e1 := h.1 pk (Or.inr rfl)
  refine ⟨⟨(h.2.1 3 7 8 (by decide)).trans p1, e1.1.trans p2, p3⟩, g2, by rw [e1.2]; exact g3, by rw [e1.2]; exact g4, ?_, g6, g7, ?_⟩
  · rw [h.2.2.2 14 (Or.inl ⟨by decide, by decide⟩)]; exact g5
  · rw [h.2.2.2 pk (Or.inr rfl)]; exact g8
theorem xEx.q {pk : Nat} {σ σ' : zS} (h : xQ pk σ σ') {P n : Nat} {fs dep par pst : Nat → Nat} {E : Nat → List Nat} (hx : xEx σ P pk n fs dep par pst E) : xEx σ' P pk n fs dep par pst E := by
  obtain ⟨x1, ⟨x2, x3⟩, ⟨x4, x5⟩, ⟨x6, x7⟩, x8, x9, x10, x11⟩ := hx
  have i : ∀ a, 2 < a → a ≤ 15 → zI σ' a = zI σ a := fun a h1 h2 => h.2.2.2 a (Or.inl ⟨h1, h2⟩)
  refine ⟨h.sh x1, ⟨(h.2.2.1 2 5 2 (by decide) (Or.inl rfl)).trans x2, x3⟩, ⟨(h.2.2.1 3 8 8 (by decide) (Or.inr rfl)).trans x4, x5⟩, ⟨(h.2.2.1 3 9 8 (by decide) (Or.inr rfl)).trans x6, x7⟩, h.gr x8, ?_, ?_, ?_⟩
  · rw [i 13 (by decide) (by decide)]; exact x9
  · rw [h.2.2.2 pk (Or.inr rfl)]; exact x10
  · unfold xEd at x11 ⊢
    rw [i 10 (by decide) (by decide), i 11 (by decide) (by decide), i 12 (by decide) (by decide)]
    exact x11
theorem xTg.qq {pk : Nat} {σ σ' : zS} (h : xTg σ σ') (hp : pk = 16 ∨ 30 ≤ pk) : xQ pk σ σ' := by
  obtain ⟨h1, h2, h3, h4, h5, h6, h7, h8⟩ := h
  refine ⟨fun a _ => ⟨by rw [h2], by rw [h3]⟩, fun c k a _ => by rw [h4], fun c k a _ hc => h7 c k a (by omega), fun a ha => h8 a (by omega)⟩
theorem zY.qq {pk : Nat} {σ σ' : zS} (h : zY σ σ') (h30 : 29 < zn σ) (hp : pk < zn σ) : xQ pk σ σ' := by
  refine ⟨fun a ha => ?_, fun c k a ha => ?_, fun c k a ha _ => ?_, fun a ha => ?_⟩
  · have := h.2 a (by omega)
    exact ⟨this.1, this.2.1⟩
  · exact ((h.2 a (by omega)).2.2.2.2 c k).2 (by omega)
  · exact ((h.2 a (by omega)).2.2.2.2 c k).1
  · exact (h.2 a (by omega)).2.2.1
theorem xFr.c {σ σ' : zS} {pk' : Nat} (h : xFr σ σ' 16 pk') : zC σ σ' := by
  obtain ⟨h1, h2, h3, h4, h5, h6, h7, h8, h9⟩ := h
  refine ⟨h1, fun a ha _ _ k9 => ⟨h3 a k9, h4 a k9, h7 a k9 (by omega) (by omega), h8 a k9, fun k => h6 6 k a k9 (by omega)⟩⟩
