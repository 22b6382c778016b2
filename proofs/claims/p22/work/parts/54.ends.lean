/-! the ends of the law: what bad states tell -/
/-- where every step leads farther on and no state is without steps, nothing can go on for ever -/
theorem tWit_no {E : Nat → List Nat} {w : Nat → Bool} {C : Nat → Prop} {idx : Nat → Nat} (hC : ∀ x y, C x → y ∈ E x → w y = true → C y ∧ idx x < idx y) (h0 : ∀ x, C x → E x ≠ []) {s : Nat} (hs : C s) : ¬ tWit E w s := by
  rintro ⟨t, h1, h2⟩
  have ht : C t := h1 (fun x => C x) hs (fun x y hx hy hw => (hC x y hx hy hw).1)
  rcases h2 with e | ⟨u, u1, u2, u3⟩
  · exact h0 t ht e
  · obtain ⟨c1, c2⟩ := hC t u ht u1 u2
    have h3 := (u3 (fun x => C x ∧ idx u ≤ idx x) ⟨c1, Nat.le_refl _⟩ (fun x y hx hy hw => ⟨(hC x y hx.1 hy hw).1, Nat.le_trans hx.2 (Nat.le_of_lt (hC x y hx.1 hy hw).2)⟩)).2
    omega
/-- a run through states without q: badness goes back to its beginning -/
theorem tDone_step {n a t z : Nat} {E : Nat → List Nat} {w bad : Nat → Bool} (h : tDone n E w bad) (ha : a < n) (hw : w a = true) (ht : t ∈ E a) (hwt : w t = true) (hI : bad a = true → bad z = true) : bad t = true → bad z = true :=
  fun q => hI ((h.2 a ha hw).2 t ht hwt q)
theorem tDone_end {n a z : Nat} {E : Nat → List Nat} {w bad : Nat → Bool} (h : tDone n E w bad) (ha : a < n) (hw : w a = true) (he : E a = []) (hI : bad a = true → bad z = true) : bad z = true :=
  hI ((h.2 a ha hw).1 he)
/-- what leads(p, q) tells, where it tells a state -/
theorem tDone_first {n s : Nat} {E : Nat → List Nat} {w bad : Nat → Bool} (h : tDone n E w bad) (hb : bad s = true) : w s = true ∧ tWit E w s := ⟨(h.1 s hb).1, (h.1 s hb).2.2⟩
/-- the facts of bad states are told by the steps alone: two such tellings agree where one's witness is the other's -/
theorem tDone_not {n s : Nat} {E : Nat → List Nat} {w bad : Nat → Bool} (h : tDone n E w bad) (hw : w s = false) : bad s = false := by
  cases e : bad s with
  | false => rfl
  | true => rw [(h.1 s e).1] at hw; exact absurd hw (by decide)
/-- parents upwards: one more, from below or from above -/
theorem xUp_succ (par : Nat → Nat) : ∀ (d s : Nat), xUp par (d + 1) s = par (xUp par d s)
  | 0, _ => rfl
  | d + 1, s => xUp_succ par d (par s)
theorem xUp_lt {par : Nat → Nat} {n : Nat} (hp : ∀ t, t < n → par t < n) : ∀ (d s : Nat), s < n → xUp par d s < n
  | 0, _, h => h
  | d + 1, s, h => xUp_lt hp d (par s) (hp s h)
/-- depths along the way: the parent of a state at depth e + 1 is at depth e -/
theorem xUp_dep {par dep : Nat → Nat} {n : Nat} (hp : ∀ t, t < n → par t < n) (hd : ∀ t, t < n → 0 < dep t → dep (par t) + 1 = dep t) : ∀ (d s : Nat), s < n → d ≤ dep s → dep (xUp par d s) + d = dep s
  | 0, _, _, _ => rfl
  | d + 1, s, h, hle => by
    have h1 := hd s h (by omega)
    have h2 := xUp_dep hp hd d (par s) (hp s h) (by omega)
    show dep (xUp par d (par s)) + (d + 1) = dep s
    omega
