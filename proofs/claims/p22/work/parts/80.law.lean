/-! the world of the law's checks -/
def zmL_lw : zM := (yL_law, cL_law, 19, (some FieldType.boolean), 1)
def wL (σ : zS) (ls G : List Int32) (pk n : Nat) (fs dep par pst : Nat → Nat) (E : Nat → List Nat) (fa : Nat) : Prop :=
  xEx σ ls.length pk n fs dep par pst E ∧ cR σ ls G ∧ xFz σ = nI 8 ∧ (30 ≤ fa ∧ fB σ fa n ∧ fT σ fa n 8) ∧ (zK σ 30 = 6 ∧ 30 < zn σ ∧ fH σ 0 ls) ∧ pk < zn σ
theorem zX.qq {pk : Nat} {σ σ' : zS} (h : zX σ σ') (h30 : 29 < zn σ) (hp : pk < zn σ) : xQ pk σ σ' := h.y.qq h30 hp
theorem wL.x {σ σ' : zS} {ls G : List Int32} {pk n fa : Nat} {fs dep par pst : Nat → Nat} {E : Nat → List Nat} (h : wL σ ls G pk n fs dep par pst E fa) (hx : zX σ σ') : wL σ' ls G pk n fs dep par pst E fa := by
  obtain ⟨h1, ⟨r1, r2, r3, r4, r5⟩, h3, ⟨h4, ⟨b1, b2, b3, b4⟩, h6⟩, ⟨h7, h8, la, l1, l2, l3⟩, h9⟩ := h
  have q := hx.qq (pk := pk) (by omega) h9
  have o : ∀ a, a < zn σ → zK σ' a = zK σ a ∧ zL σ' a = zL σ a ∧ zI σ' a = zI σ a ∧ zR σ' a = zR σ a ∧ ∀ c k, zF σ' c k a = zF σ c k a ∧ zG σ' c k a = zG σ c k a := hx.2
  have oI : ∀ a, a < zn σ → zI σ' a = zI σ a := fun a ha => (o a ha).2.2.1
  refine ⟨h1.q q, ⟨q.sh r1, ((o 2 (by omega)).2.2.2.2 2 5).1.trans r2, ((o 2 (by omega)).2.2.2.2 2 6).1.trans r3, fun p x hp => by rw [oI 3 (by omega)]; exact r4 p x hp, by rw [(o 0 (by omega)).2.1]; exact r5⟩, ((o 17 (by omega)).2.2.2.2 0 3).1.trans h3, ⟨h4, ⟨Nat.lt_of_lt_of_le b1 hx.1, (o fa (by omega)).1.trans b2, (o fa (by omega)).2.1.trans b3, fun j hj => ?_⟩, fun j hj s hs => ?_⟩, ⟨(o 30 h8).1.trans h7, Nat.lt_of_lt_of_le h8 hx.1, la, ((o 30 h8).2.2.2.2 6 0).2.trans l1, l2, l3.x hx⟩, Nat.lt_of_lt_of_le h9 hx.1⟩
  · obtain ⟨c1, c2, c3⟩ := b4 j hj
    exact ⟨by rw [(o fa (by omega)).2.2.2.1]; exact c1, (o _ (by omega)).1.trans c2, (o _ (by omega)).2.1.trans c3⟩
  · rw [oI _ (by omega), xHold_cg (oI 18 (by omega)) (oI 19 (by omega)) (oI 20 (by omega)), oI 9 (by omega)]
    exact h6 j hj s hs
theorem wL.t {σ σ' : zS} {ls G : List Int32} {pk n fa : Nat} {fs dep par pst : Nat → Nat} {E : Nat → List Nat} (h : wL σ ls G pk n fs dep par pst E fa) (ht : xTg σ σ') : wL σ' ls G pk n fs dep par pst E fa := by
  obtain ⟨h1, ⟨r1, r2, r3, r4, r5⟩, h3, ⟨h4, ⟨b1, b2, b3, b4⟩, h6⟩, ⟨h7, h8, la, l1, l2, ⟨i1, i2, i3, i4, i5⟩⟩, h9⟩ := h
  have q : xQ pk σ σ' := ht.qq h1.2.2.2.2.1.1.2.2
  obtain ⟨t1, t2, t3, t4, t5, t6, t7, t8⟩ := ht
  refine ⟨h1.q q, ⟨q.sh r1, (t7 2 5 2 (by decide)).trans r2, (t7 2 6 2 (by decide)).trans r3, by rw [t8 3 (by decide)]; exact r4, by rw [t3]; exact r5⟩, (t7 0 3 17 (by decide)).trans h3, ⟨h4, ⟨by rw [t1]; exact b1, by rw [t2]; exact b2, by rw [t3]; exact b3, by rw [t2, t3, t5]; exact b4⟩, fun j hj s hs => ?_⟩, ⟨by rw [t2]; exact h7, by rw [t1]; exact h8, la, by rw [t4]; exact l1, l2, ⟨by rw [t2]; exact i1, i2, by rw [t1]; exact i3, by rw [t3]; exact i4, by rw [t8 la (by omega)]; exact i5⟩⟩, by rw [t1]; exact h9⟩
  rw [t8 _ (by omega), xHold_cg (t8 18 (by decide)) (t8 19 (by decide)) (t8 20 (by decide)), t8 9 (by decide)]
  exact h6 j hj s hs
/-- what the class's calls want of a state -/
theorem xEx.st {σ : zS} {P pk n s : Nat} {fs dep par pst : Nat → Nat} {E : Nat → List Nat} (h : xEx σ P pk n fs dep par pst E) (hs : s < n) : xS σ = nI n ∧ n ≤ 400 ∧ zI σ 14 s = nI (fs s) ∧ zI σ 14 (s + 1) = nI (fs s + (E s).length) ∧ xPk σ pk ∧ fs s + (E s).length ≤ zL σ pk ∧ zL σ pk < 2 ^ 31 := by
  obtain ⟨x1, x2, ⟨x4, x5⟩, x6, ⟨g1, g2, g3, g4, g5, g6, g7, g8⟩, x9⟩ := h
  have e := g6 s hs
  have e2 := g7 (s + 1) hs
  refine ⟨x4, g2, g5 s (by omega), ?_, g1, by omega, g4⟩
  rw [← e]
  exact g5 (s + 1) hs
theorem xEx.tg {σ : zS} {P pk n s j t : Nat} {fs dep par pst : Nat → Nat} {E : Nat → List Nat} (h : xEx σ P pk n fs dep par pst E) (hs : s < n) (hj : (E s)[j]? = some t) : t < n ∧ xPart (zI σ pk (fs s + j)) 0 = nI t ∧ (∃ p, p < P ∧ xPart (zI σ pk (fs s + j)) 1 = nI p) ∧ dep t ≤ dep s + 1 := by
  obtain ⟨x1, x2, x3, x6, ⟨g1, g2, g3, g4, g5, g6, g7, g8⟩, x9, x10, x11⟩ := h
  exact ⟨(g8 s hs j t hj).1, (g8 s hs j t hj).2, (x10 s hs j t hj).1, (x10 s hs j t hj).2⟩
theorem xEx.len {σ : zS} {P pk n s : Nat} {fs dep par pst : Nat → Nat} {E : Nat → List Nat} (h : xEx σ P pk n fs dep par pst E) (hs : s < n) : (E s).length < 2 ^ 20 := by
  obtain ⟨x1, x2, x3, ⟨x6, x7⟩, ⟨g1, g2, g3, g4, g5, g6, g7, g8⟩, x9⟩ := h
  have e := g6 s hs
  have e2 := g7 (s + 1) hs
  omega
/-- the traps of q, as the heap has them when q was looked for last -/
def wQ (σ : zS) (n : Nat) (E : Nat → List Nat) (w : Nat → Bool) (q : Nat) : Prop := zF σ 4 11 21 = nI q → ∃ bad, (∀ t, t < n → zI σ 24 t = zb (bad t)) ∧ tDone n E w bad
/-- the states without q -/
def wW (σ : zS) (q : Nat) : Nat → Bool := fun s => !xHold σ q (zI σ 9 s)
theorem zq_find {many time j : Nat} (hj : j < many) : ∃ k, k < many ∧ (k + time) % many = j := by
  have hr := Nat.mod_lt time (show 0 < many by omega)
  have hd := Nat.div_add_mod time many
  by_cases c : time % many ≤ j
  · refine ⟨j - time % many, by omega, ?_⟩
    rw [show j - time % many + time = j + many * (time / many) by omega, Nat.add_mul_mod_self_left]
    exact Nat.mod_eq_of_lt hj
  · refine ⟨j + many - time % many, by omega, ?_⟩
    rw [show j + many - time % many + time = j + many * (time / many + 1) by rw [Nat.mul_add]; omega, Nat.add_mul_mod_self_left]
    exact Nat.mod_eq_of_lt hj
/-! lists without doubles, and their places -/
theorem nd_ix {xs : List Nat} (h : xs.Nodup) : ∀ {i j x : Nat}, xs[i]? = some x → xs[j]? = some x → i = j := by
  induction xs with
  | nil => intro i j x hi; cases hi
  | cons y ys ih =>
    obtain ⟨hy, hn⟩ := List.nodup_cons.mp h
    intro i j x hi hj
    cases i with
    | zero =>
      rw [List.getElem?_cons_zero] at hi
      cases j with
      | zero => rfl
      | succ j =>
        rw [List.getElem?_cons_succ] at hj
        exact absurd (Option.some.inj hi ▸ List.mem_of_getElem? hj) hy
    | succ i =>
      rw [List.getElem?_cons_succ] at hi
      cases j with
      | zero =>
        rw [List.getElem?_cons_zero] at hj
        exact absurd (Option.some.inj hj ▸ List.mem_of_getElem? hi) hy
      | succ j =>
        rw [List.getElem?_cons_succ] at hj
        rw [ih hn hi hj]
/-- where each state of the line steps to ones farther on alone, and none is without steps, there is no witness -/
theorem line_no {E : Nat → List Nat} {w : Nat → Bool} {xs : List Nat} (hn : xs.Nodup) (h : ∀ (k x : Nat), xs[k]? = some x → E x ≠ [] ∧ ∀ y, y ∈ E x → w y = true → ∃ m : Nat, k < m ∧ xs[m]? = some y) {s : Nat} (hs : s ∈ xs) : ¬ tWit E w s := by
  have hx : ∀ x, x ∈ xs → ∃ k, xs[k]? = some x := fun x hx => List.getElem?_of_mem hx
  have key : ∃ idx : Nat → Nat, ∀ x, x ∈ xs → xs[idx x]? = some x := by
    have : ∀ x, ∃ k, x ∈ xs → xs[k]? = some x := fun x => by
      by_cases c : x ∈ xs
      · obtain ⟨k, hk⟩ := hx x c
        exact ⟨k, fun _ => hk⟩
      · exact ⟨0, fun q => absurd q c⟩
    exact Classical.axiomOfChoice this
  obtain ⟨idx, hi⟩ := key
  refine tWit_no (C := fun x => x ∈ xs) (idx := idx) (fun x y hxx hy hw => ?_) (fun x hxx => (h _ x (hi x hxx)).1) hs
  obtain ⟨m, m1, m2⟩ := (h _ x (hi x hxx)).2 y hy hw
  have hym : y ∈ xs := List.mem_of_getElem? m2
  refine ⟨hym, ?_⟩
  rw [nd_ix hn (hi y hym) m2]
  exact m1
