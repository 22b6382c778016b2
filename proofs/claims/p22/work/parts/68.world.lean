/-! the world while the law builds: what the class's calls leave alone of the hand's -/
def zC (σ σ' : zS) : Prop := zn σ ≤ zn σ' ∧ ∀ a, 30 ≤ a → a < zn σ → zK σ a ≠ 1 → zK σ a ≠ 999 → zK σ' a = zK σ a ∧ zL σ' a = zL σ a ∧ zI σ' a = zI σ a ∧ zR σ' a = zR σ a ∧ ∀ k, zG σ' 6 k a = zG σ 6 k a
theorem zC.rf (σ : zS) : zC σ σ := ⟨Nat.le_refl _, fun _ _ _ _ _ => ⟨rfl, rfl, rfl, rfl, fun _ => rfl⟩⟩
theorem zC.tr {σ σ1 σ2 : zS} (h : zC σ σ1) (h2 : zC σ1 σ2) : zC σ σ2 := by
  refine ⟨Nat.le_trans h.1 h2.1, fun a h30 ha k1 k9 => ?_⟩
  obtain ⟨b1, b2, b3, b4, b5⟩ := h.2 a h30 ha k1 k9
  obtain ⟨c1, c2, c3, c4, c5⟩ := h2.2 a h30 (Nat.lt_of_lt_of_le ha h.1) (by rw [b1]; exact k1) (by rw [b1]; exact k9)
  exact ⟨c1.trans b1, c2.trans b2, c3.trans b3, c4.trans b4, fun k => (c5 k).trans (b5 k)⟩
theorem zX.c {σ σ' : zS} (h : zX σ σ') : zC σ σ' := ⟨h.1, fun a _ ha _ _ => by
  obtain ⟨b1, b2, b3, b4, b5⟩ := h.2 a ha
  exact ⟨b1, b2, b3, b4, fun k => (b5 6 k).2⟩⟩
theorem zC.F {σ0 σ : zS} {c k a : Nat} {x : Int32} (h : zC σ0 σ) (_ : a < 30) : zC σ0 (zsF σ c k a x) := h
theorem zC.I {σ0 σ : zS} {a i : Nat} {x : Int32} (h : zC σ0 σ) (ha : a < 30) : zC σ0 (zsI σ a i x) := by
  refine h.tr ⟨Nat.le_refl _, fun b hb _ _ _ => ⟨rfl, rfl, funext fun j => ?_, rfl, fun _ => rfl⟩⟩
  rw [zI_zsI, if_neg (by omega)]
theorem zC.R {σ0 σ : zS} {a i : Nat} {x : Option Nat} (h : zC σ0 σ) (ha : a < 30) : zC σ0 (zsR σ a i x) := by
  refine h.tr ⟨Nat.le_refl _, fun b hb _ _ _ => ⟨rfl, rfl, rfl, funext fun j => ?_, fun _ => rfl⟩⟩
  rw [zR_zsR, if_neg (by omega)]
/-- a field of a move -/
theorem zC.Fm {σ0 σ : zS} {c k a : Nat} {x : Int32} (h : zC σ0 σ) (_ : zK σ a = 1) : zC σ0 (zsF σ c k a x) := h
theorem zC.C1 {σ0 σ : zS} {c : Nat} (h : zC σ0 σ) : zC σ0 (znC1 σ c) := by
  refine h.tr ⟨Nat.le_succ _, fun b hb hlt _ _ => ?_⟩
  have e : b ≠ zn σ := Nat.ne_of_lt hlt
  refine ⟨?_, rfl, rfl, rfl, fun k' => ?_⟩
  · rw [zK_znC1, if_neg e]
  · rw [zG_znC1, if_neg e]
theorem iI.c {σ σ' : zS} {a : Nat} {xs : List Int32} (h : iI σ a xs) (ha : 30 ≤ a) (hc : zC σ σ') : iI σ' a xs := by
  obtain ⟨h1, h2, h3, h4, h5⟩ := h
  obtain ⟨b1, b2, b3, b4, b5⟩ := hc.2 a ha h3 (by rw [h1]; decide) (by rw [h1]; decide)
  exact ⟨b1.trans h1, h2, Nat.lt_of_lt_of_le h3 hc.1, b2.trans h4, fun i x q => by rw [b3]; exact h5 i x q⟩
theorem iR.c {β : Type} {σ σ' : zS} {t a : Nat} {P P' : Nat → β → Prop} {l : List β} (h : iR σ t a P l) (ha : 30 ≤ a) (ht : t ≤ 10) (hc : zC σ σ') (hP : ∀ b x, P b x → P' b x) : iR σ' t a P' l := by
  obtain ⟨h1, h2, h3, h4, h5⟩ := h
  obtain ⟨b1, b2, b3, b4, b5⟩ := hc.2 a ha h3 (by rw [h1]; omega) (by rw [h1]; omega)
  refine ⟨b1.trans h1, h2, Nat.lt_of_lt_of_le h3 hc.1, b2.trans h4, fun i x q => ?_⟩
  obtain ⟨b, c1, c2⟩ := h5 i x q
  exact ⟨b, by rw [b4]; exact c1, hP b x c2⟩
/-- the moves of a process as the hand has them -/
def rH (σ : zS) (b : Nat) (ms : List hMv) : Prop := 30 < b ∧ iR σ 4 b (fun r xs => 30 < r ∧ iI σ r xs) (ms.map hMv.row)
def mH (σ : zS) (mvs : List (List hMv)) : Prop := zG σ 6 3 30 = some 34 ∧ iR σ 5 34 (fun b ms => rH σ b ms) mvs
def fH (σ : zS) (k : Nat) (xs : List Int32) : Prop := ∃ a, zG σ 6 k 30 = some a ∧ 30 < a ∧ iI σ a xs
def eH (σ : zS) : Prop := (zG σ 6 4 30 = some 40 ∧ zK σ 40 = 104 ∧ zL σ 40 = 0) ∧ (zG σ 6 5 30 = some 41 ∧ zK σ 41 = 105 ∧ zL σ 41 = 0) ∧ (zG σ 6 6 30 = some 42 ∧ zK σ 42 = 100 ∧ zL σ 42 = 0) ∧ (zG σ 6 7 30 = some 43 ∧ zK σ 43 = 100 ∧ zL σ 43 = 0)
def bH (σ : zS) (ls G B : List Int32) (mvs : List (List hMv)) : Prop := zK σ 30 = 6 ∧ 43 < zn σ ∧ fH σ 0 ls ∧ fH σ 1 G ∧ fH σ 2 B ∧ mH σ mvs ∧ eH σ
theorem rH.c {σ σ' : zS} {b : Nat} {ms : List hMv} (h : rH σ b ms) (hc : zC σ σ') : rH σ' b ms := ⟨h.1, h.2.c (by have := h.1; omega) (by decide) hc (fun r xs q => ⟨q.1, q.2.c (by omega) hc⟩)⟩
theorem bH.c {σ σ' : zS} {ls G B : List Int32} {mvs : List (List hMv)} (h : bH σ ls G B mvs) (hc : zC σ σ') : bH σ' ls G B mvs := by
  obtain ⟨h1, h2, h3, h4, h5, ⟨h6, h7⟩, ⟨e1, e2, e3⟩, ⟨e4, e5, e6⟩, ⟨e7, e8, e9⟩, ⟨e10, e11, e12⟩⟩ := h
  obtain ⟨b1, -, -, -, b5⟩ := hc.2 30 (Nat.le_refl _) (by omega) (by rw [h1]; decide) (by rw [h1]; decide)
  have f : ∀ k xs, fH σ k xs → fH σ' k xs := by
    rintro k xs ⟨a, q1, q2, q3⟩
    exact ⟨a, (b5 k).trans q1, q2, q3.c (by omega) hc⟩
  obtain ⟨c1, c2, -⟩ := hc.2 40 (by decide) (by omega) (by rw [e2]; decide) (by rw [e2]; decide)
  obtain ⟨c3, c4, -⟩ := hc.2 41 (by decide) (by omega) (by rw [e5]; decide) (by rw [e5]; decide)
  obtain ⟨c5, c6, -⟩ := hc.2 42 (by decide) (by omega) (by rw [e8]; decide) (by rw [e8]; decide)
  obtain ⟨c7, c8, -⟩ := hc.2 43 (by decide) (by omega) (by rw [e11]; decide) (by rw [e11]; decide)
  exact ⟨b1.trans h1, Nat.lt_of_lt_of_le h2 hc.1, f 0 ls h3, f 1 G h4, f 2 B h5, ⟨(b5 3).trans h6, h7.c (by decide) (by decide) hc (fun b ms q => q.c hc)⟩, ⟨(b5 4).trans e1, c1.trans e2, c2.trans e3⟩, ⟨(b5 5).trans e4, c3.trans e5, c4.trans e6⟩, ⟨(b5 6).trans e7, c5.trans e8, c6.trans e9⟩, ⟨(b5 7).trans e10, c7.trans e11, c8.trans e12⟩⟩
theorem fH.put {σ : zS} {k r : Nat} {xs : List Int32} (h30 : 30 < r) (h : iI σ r xs) : fH (zsG σ 6 k 30 (some r)) k xs := ⟨r, by rw [zG_zsG, if_pos ⟨rfl, rfl, rfl⟩], h30, h⟩
theorem fH.oth {σ : zS} {k k' : Nat} {x : Option Nat} {xs : List Int32} (h : fH σ k xs) (hk : k ≠ k') : fH (zsG σ 6 k' 30 x) k xs := by
  obtain ⟨a, q1, q2, q3⟩ := h
  exact ⟨a, by rw [zG_zsG, if_neg (fun q => hk q.2.1)]; exact q1, q2, q3⟩
theorem mH.oth {σ : zS} {k' : Nat} {x : Option Nat} {mvs : List (List hMv)} (h : mH σ mvs) (hk : k' < 3) : mH (zsG σ 6 k' 30 x) mvs := ⟨by rw [zG_zsG, if_neg (fun q => by have := q.2.1; omega)]; exact h.1, h.2⟩
theorem eH.oth {σ : zS} {k' : Nat} {x : Option Nat} (h : eH σ) (hk : k' < 3) : eH (zsG σ 6 k' 30 x) := by
  obtain ⟨⟨e1, e2, e3⟩, ⟨e4, e5, e6⟩, ⟨e7, e8, e9⟩, ⟨e10, e11, e12⟩⟩ := h
  exact ⟨⟨by rw [zG_zsG, if_neg (fun q => by have := q.2.1; omega)]; exact e1, e2, e3⟩, ⟨by rw [zG_zsG, if_neg (fun q => by have := q.2.1; omega)]; exact e4, e5, e6⟩, ⟨by rw [zG_zsG, if_neg (fun q => by have := q.2.1; omega)]; exact e7, e8, e9⟩, ⟨by rw [zG_zsG, if_neg (fun q => by have := q.2.1; omega)]; exact e10, e11, e12⟩⟩
theorem bH.G0 {σ : zS} {ls ls' G B : List Int32} {mvs : List (List hMv)} {r : Nat} (h : bH σ ls G B mvs) (h30 : 30 < r) (hr : iI σ r ls') : bH (zsG σ 6 0 30 (some r)) ls' G B mvs :=
  ⟨h.1, h.2.1, fH.put h30 hr, h.2.2.2.1.oth (by decide), h.2.2.2.2.1.oth (by decide), h.2.2.2.2.2.1.oth (by decide), h.2.2.2.2.2.2.oth (by decide)⟩
theorem bH.G1 {σ : zS} {ls G' G B : List Int32} {mvs : List (List hMv)} {r : Nat} (h : bH σ ls G B mvs) (h30 : 30 < r) (hr : iI σ r G') : bH (zsG σ 6 1 30 (some r)) ls G' B mvs :=
  ⟨h.1, h.2.1, h.2.2.1.oth (by decide), fH.put h30 hr, h.2.2.2.2.1.oth (by decide), h.2.2.2.2.2.1.oth (by decide), h.2.2.2.2.2.2.oth (by decide)⟩
theorem bH.G2 {σ : zS} {ls G B B' : List Int32} {mvs : List (List hMv)} {r : Nat} (h : bH σ ls G B mvs) (h30 : 30 < r) (hr : iI σ r B') : bH (zsG σ 6 2 30 (some r)) ls G B' mvs :=
  ⟨h.1, h.2.1, h.2.2.1.oth (by decide), h.2.2.2.1.oth (by decide), fH.put h30 hr, h.2.2.2.2.2.1.oth (by decide), h.2.2.2.2.2.2.oth (by decide)⟩
theorem iR.neR {β : Type} {σ : zS} {t a b i : Nat} {x : Option Nat} {P P' : Nat → β → Prop} {l : List β} (h : iR σ t b P l) (hne : b ≠ a) (hP : ∀ b x, P b x → P' b x) : iR (zsR σ a i x) t b P' l :=
  ⟨h.1, h.2.1, h.2.2.1, h.2.2.2.1, fun j y q => by
    obtain ⟨c, c1, c2⟩ := h.2.2.2.2 j y q
    exact ⟨c, by rw [zR_zsR, if_neg (fun z => hne z.1)]; exact c1, hP c y c2⟩⟩
theorem rH.R {σ : zS} {b i : Nat} {x : Option Nat} {ms : List hMv} (h : rH σ b ms) (hk : zK σ 34 = 105) : rH (zsR σ 34 i x) b ms := by
  refine ⟨h.1, h.2.neR (fun e => ?_) (fun _ _ q => q)⟩
  have := h.2.1
  rw [e, hk] at this
  exact absurd this (by decide)
/-- the moves of the process p anew -/
theorem bH.R {σ : zS} {ls G B : List Int32} {mvs : List (List hMv)} {p b : Nat} {ms : List hMv} (h : bH σ ls G B mvs) (hp : p < mvs.length) (hb : rH σ b ms) : bH (zsR σ 34 p (some b)) ls G B (mvs.set p ms) := by
  obtain ⟨h1, h2, h3, h4, h5, ⟨h6, h7⟩, h8⟩ := h
  refine ⟨h1, h2, h3, h4, h5, ⟨h6, h7.1, h7.2.1, h7.2.2.1, by rw [List.length_set]; exact h7.2.2.2.1, fun i x q => ?_⟩, h8⟩
  rw [List.getElem?_set] at q
  rw [zR_zsR]
  by_cases e : p = i
  · rw [if_pos e, if_pos hp] at q
    rw [if_pos ⟨rfl, e.symm⟩]
    rw [← Option.some.inj q]
    exact ⟨b, rfl, hb.R h7.1⟩
  · rw [if_neg e] at q
    rw [if_neg (fun z => e z.2.symm)]
    obtain ⟨c, c1, c2⟩ := h7.2.2.2.2 i x q
    exact ⟨c, c1, c2.R h7.1⟩
theorem bH.all {σ : zS} {ls G B : List Int32} {mvs : List (List hMv)} (h : bH σ ls G B mvs) : hAll σ σ ls.length G mvs [] 0 ∧ hBg σ B := by
  obtain ⟨h1, h2, ⟨la, a1, a2, a3⟩, ⟨ga, b1, b2, b3⟩, ⟨ba, c1, c2, c3⟩, ⟨h6, h7⟩, ⟨e1, e2, e3⟩, ⟨e4, e5, e6⟩, ⟨e7, e8, e9⟩, ⟨e10, e11, e12⟩⟩ := h
  refine ⟨⟨zY.rf σ, ⟨h1, by omega, ⟨la, ls, a1, a3, rfl⟩, ga, b1, b3⟩, ⟨h1, by omega, ⟨40, e1, e2, by decide, by omega, e3, fun i x q => by cases q⟩, fun k hk => ?_⟩, ⟨34, h6, h7.mono (fun b ms q => q.2.mono (fun r xs z => z.2))⟩, ⟨41, [], e4, ⟨e5, by decide, by omega, e6, fun i x q => by cases q⟩, rfl⟩⟩, ⟨ba, c1, c3⟩⟩
  rcases hk with e | e
  · rw [e]
    exact ⟨42, [], e7, ⟨e8, by decide, by omega, e9, fun i x q => by cases q⟩, rfl⟩
  · rw [e]
    exact ⟨43, [], e10, ⟨e11, by decide, by omega, e12, fun i x q => by cases q⟩, rfl⟩
/-! the class's side -/
def bC (σ : zS) (ls G B : List Int32) (mvs : List (List hMv)) (mid : Nat → Nat → Nat) : Prop :=
  (xSh σ ∧ xPk σ 16 ∧ zL σ 16 = 2048 ∧ zL σ 0 < 2 ^ 31) ∧ (xP σ = nI ls.length ∧ xV σ = nI G.length) ∧ ((∀ (p : Nat) (x : Int32), ls[p]? = some x → zI σ 3 p = x) ∧ (∀ (v : Nat) (x : Int32), G[v]? = some x → zI σ 6 v = x) ∧ (∀ (v : Nat) (x : Int32), B[v]? = some x → zI σ 7 v = x)) ∧
  (∀ (p : Nat) (ms : List hMv), mvs[p]? = some ms → zI σ 4 p = nI ms.length ∧ ∀ (m : Nat) (o : hMv), ms[m]? = some o → zR σ 5 (16 * p + m) = some (mid p m) ∧ zK σ (mid p m) = 1 ∧ zF σ 1 0 (mid p m) = nI p ∧ zF σ 1 1 (mid p m) = nI m ∧ rMv σ G (mid p m) o) ∧
  (xFz σ = nI 0 ∧ zF σ 4 11 21 = -1)
theorem rMv.cg {σ σ' : zS} {G : List Int32} {a : Nat} {o : hMv} (h : rMv σ G a o) (e : ∀ k, zF σ' 1 k a = zF σ 1 k a) : rMv σ' G a o := by
  obtain ⟨r2, r3, r4, r5, r6, r7, r8, r9, r10, r11⟩ := h
  exact ⟨(e 2).trans r2, (e 3).trans r3, (e 4).trans r4, (e 5).trans r5, (e 6).trans r6, (e 7).trans r7, (e 8).trans r8, (e 9).trans r9, (e 10).trans r10, fun q => (e 11).trans (r11 q)⟩
theorem xSh.x {σ σ' : zS} (h : xSh σ) (hw : zWF σ) (hx : zX σ σ') : xSh σ' := by
  have f : ∀ a, zK σ a ≠ 999 → a < zn σ := fun a ha => by
    rcases Nat.lt_or_ge a (zn σ) with q | q
    · exact q
    · exact absurd (hw.2.2 a q) ha
  exact h.mono (fun a ha => (hx.2 a (f a ha)).1) (fun a ha => (hx.2 a (f a ha)).2.1) (fun c k a ha _ => ((hx.2 a (f a ha)).2.2.2.2 c k).2)
theorem bC.x {σ σ' : zS} {ls G B : List Int32} {mvs : List (List hMv)} {mid : Nat → Nat → Nat} (h : bC σ ls G B mvs mid) (hw : zWF σ) (hx : zX σ σ') : bC σ' ls G B mvs mid := by
  obtain ⟨⟨h1, h2, h3, h00⟩, ⟨h4, h5⟩, ⟨h6, h7, h8⟩, h9, h10, h11⟩ := h
  have f29 := zWF_lt hw (xk_29 h1) (by decide)
  have o : ∀ a, a < 30 → zK σ' a = zK σ a ∧ zL σ' a = zL σ a ∧ zI σ' a = zI σ a ∧ zR σ' a = zR σ a ∧ ∀ c k, zF σ' c k a = zF σ c k a ∧ zG σ' c k a = zG σ c k a := fun a ha => hx.2 a (by omega)
  have oI : ∀ a, a < 30 → zI σ' a = zI σ a := fun a ha => (o a ha).2.2.1
  refine ⟨⟨h1.x hw hx, ⟨((o 8 (by decide)).2.2.2.2 3 7).2.trans h2.1, ((o 16 (by decide)).1).trans h2.2.1, h2.2.2⟩, (o 16 (by decide)).2.1.trans h3, by rw [(o 0 (by decide)).2.1]; exact h00⟩, ⟨((o 2 (by decide)).2.2.2.2 2 5).1.trans h4, ((o 2 (by decide)).2.2.2.2 2 6).1.trans h5⟩, ⟨fun p x q => by rw [oI 3 (by decide)]; exact h6 p x q, fun p x q => by rw [oI 6 (by decide)]; exact h7 p x q, fun p x q => by rw [oI 7 (by decide)]; exact h8 p x q⟩, fun p ms hp => ?_, ((o 17 (by decide)).2.2.2.2 0 3).1.trans h10, ((o 21 (by decide)).2.2.2.2 4 11).1.trans h11⟩
  obtain ⟨g1, g2⟩ := h9 p ms hp
  refine ⟨by rw [oI 4 (by decide)]; exact g1, fun m x hm => ?_⟩
  obtain ⟨m1, m2, m3, m4, m5⟩ := g2 m x hm
  obtain ⟨b1, b2, b3, b4, b5⟩ := hx.2 _ (zWF_lt hw m2 (by decide))
  exact ⟨by rw [(o 5 (by decide)).2.2.2.1]; exact m1, b1.trans m2, (b5 1 0).1.trans m3, (b5 1 1).1.trans m4, m5.cg (fun k => (b5 1 k).1)⟩
theorem xSh.G6 {σ : zS} {k : Nat} {x : Option Nat} (h : xSh σ) : xSh (zsG σ 6 k 30 x) := by
  have k2 : ∀ q ∈ xGs, q.1 ≠ 6 := by decide
  refine ⟨h.1, h.2.1, fun q hq => ?_⟩
  rw [zG_zsG, if_neg (fun z => k2 q hq z.1)]
  exact h.2.2 q hq
theorem bC.G {σ : zS} {ls G B : List Int32} {mvs : List (List hMv)} {mid : Nat → Nat → Nat} {k : Nat} {x : Option Nat} (h : bC σ ls G B mvs mid) : bC (zsG σ 6 k 30 x) ls G B mvs mid := by
  obtain ⟨⟨h1, h2, h3⟩, h4⟩ := h
  exact ⟨⟨h1.G6, ⟨by rw [zG_zsG, if_neg (fun q => absurd q.1 (by decide))]; exact h2.1, h2.2⟩, h3⟩, h4⟩
theorem bC.R {σ : zS} {ls G B : List Int32} {mvs : List (List hMv)} {mid : Nat → Nat → Nat} {p : Nat} {x : Option Nat} (h : bC σ ls G B mvs mid) : bC (zsR σ 34 p x) ls G B mvs mid := by
  obtain ⟨h1, h2, h3, h9, h10⟩ := h
  refine ⟨h1, h2, h3, fun p ms hp => ?_, h10⟩
  obtain ⟨g1, g2⟩ := h9 p ms hp
  refine ⟨g1, fun m x hm => ?_⟩
  obtain ⟨m1, m2⟩ := g2 m x hm
  exact ⟨by rw [zR_zsR, if_neg (fun q => absurd q.1 (by decide))]; exact m1, m2⟩
theorem bC.I {σ : zS} {ls G B : List Int32} {mvs : List (List hMv)} {mid : Nat → Nat → Nat} {a i : Nat} {x : Int32} (h : bC σ ls G B mvs mid) (ha : 30 ≤ a) : bC (zsI σ a i x) ls G B mvs mid := by
  have e : ∀ b, b < 30 → zI (zsI σ a i x) b = zI σ b := fun b hb => funext fun j => by rw [zI_zsI, if_neg (by omega)]
  obtain ⟨h1, h2, ⟨h6, h7, h8⟩, h9, h10⟩ := h
  refine ⟨h1, h2, ⟨by rw [e 3 (by decide)]; exact h6, by rw [e 6 (by decide)]; exact h7, by rw [e 7 (by decide)]; exact h8⟩, fun p ms hp => ?_, h10⟩
  rw [e 4 (by decide)]
  exact h9 p ms hp
theorem zC.In {σ0 σ : zS} {a i : Nat} {x : Int32} (h : zC σ0 σ) (ha : zn σ0 ≤ a) : zC σ0 (zsI σ a i x) := by
  refine ⟨h.1, fun b hb hlt k1 k9 => ?_⟩
  obtain ⟨b1, b2, b3, b4, b5⟩ := h.2 b hb hlt k1 k9
  refine ⟨b1, b2, ?_, b4, b5⟩
  rw [← b3]
  funext j
  rw [zI_zsI, if_neg (by omega)]
