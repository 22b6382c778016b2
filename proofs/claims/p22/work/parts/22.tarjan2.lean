/-- a state left that comes back to one before it: it goes on waiting -/
theorem tInv_leave {n : Nat} {E : Nat → List Nat} {w : Nat → Bool} {r wait : List Nat} {ord low nx : Nat → Nat} {bad : Nat → Bool} {en v : Nat} (h : tInv n E w (v :: r) wait ord low nx bad en) (hn : nx v = (E v).length) (hl : low v ≠ ord v) :
    ∃ b r', r = b :: r' ∧ tInv n E w r wait ord (tU low b (min (low b) (low v))) nx bad en := by
  obtain ⟨a1, a2, a3, a4, a5, a6, a7, a8, a9, a10, a11, a12⟩ := h
  have hv : v ∈ wait := a4 v List.mem_cons_self
  obtain ⟨l1, y, y1, y2, y3⟩ := a8 v List.mem_cons_self
  have hlt : low v < ord v := by omega
  have back : ∃ p, p ∈ r ∧ ord p ≤ ord y ∧ tR E w v p := by
    obtain ⟨p, p1, p2, p3⟩ := a7 y y1
    rcases List.mem_cons.mp p1 with q | q
    · rw [q] at p2; omega
    · exact ⟨p, q, p2, y3.tr p3⟩
  cases r with
  | nil =>
    obtain ⟨p, p1, -, -⟩ := back
    exact (List.not_mem_nil p1).elim
  | cons b r' =>
    refine ⟨b, r', rfl, ?_⟩
    have hbv : ord b < ord v := (List.pairwise_cons.mp a5).1 b List.mem_cons_self
    have hb : b ∈ v :: b :: r' := List.mem_cons_of_mem _ List.mem_cons_self
    have hlow : ∀ p, tU low b (min (low b) (low v)) p ≤ low p := by
      intro p
      by_cases q : p = b
      · rw [q, tU_s]; exact Nat.min_le_left _ _
      · rw [tU_n q]; exact Nat.le_refl _
    refine ⟨a1, a2, a3, fun p hp => a4 p (List.mem_cons_of_mem _ hp), (List.pairwise_cons.mp a5).2, fun p hp => a6 p (List.mem_cons_of_mem _ hp), fun x hx => ?_, fun p hp => ?_, fun x hx i t hi ht hwt => ?_, fun x hx => ?_, a11, a12⟩
    · obtain ⟨p, p1, p2, p3⟩ := a7 x hx
      rcases List.mem_cons.mp p1 with q | q
      · obtain ⟨p', b1, b2, b3⟩ := back
        rw [q] at p2 p3
        exact ⟨p', b1, by omega, p3.tr b3⟩
      · exact ⟨p, q, p2, p3⟩
    · obtain ⟨b1, x, b2, b3, b4⟩ := a8 p (List.mem_cons_of_mem _ hp)
      refine ⟨Nat.le_trans (hlow p) b1, ?_⟩
      by_cases q : p = b
      · rw [q] at b3 b4 ⊢
        rw [tU_s]
        by_cases hm : low b ≤ low v
        · rw [Nat.min_eq_left hm]
          exact ⟨x, b2, b3, b4⟩
        · rw [Nat.min_eq_right (by omega)]
          exact ⟨y, y1, y2, (a6 b hb v hv (Nat.le_of_lt hbv)).tr y3⟩
      · rw [tU_n q]
        exact ⟨x, b2, b3, b4⟩
    · obtain ⟨c1, c2⟩ := a9 x hx i t hi ht hwt
      refine ⟨c1, fun htw p hp => ?_⟩
      obtain ⟨d1, d2, d3⟩ := hp
      by_cases hxv : ord v ≤ ord x
      · have e1 := c2 htw v ⟨List.mem_cons_self, hxv, fun p' f1 _ => by
          rcases List.mem_cons.mp f1 with z | z
          · rw [z]; exact Nat.le_refl _
          · exact Nat.le_of_lt ((List.pairwise_cons.mp a5).1 p' z)⟩
        have e2 : p = b := by
          have := d3 b List.mem_cons_self (by omega)
          rcases List.mem_cons.mp d1 with z | z
          · exact z
          · have := (List.pairwise_cons.mp (List.pairwise_cons.mp a5).2).1 p z
            omega
        rw [e2, tU_s]
        exact Nat.le_trans (Nat.min_le_right _ _) e1
      · refine Nat.le_trans (hlow p) (c2 htw p ⟨List.mem_cons_of_mem _ d1, d2, fun p' f1 f2 => ?_⟩)
        rcases List.mem_cons.mp f1 with z | z
        · rw [z] at f2; omega
        · exact d3 p' z f2
    · obtain ⟨b1, b2⟩ := a10 x hx
      refine ⟨b1, fun z => ?_⟩
      by_cases q : x = v
      · rw [q]; exact hn
      · exact b2 (fun z2 => by
          rcases List.mem_cons.mp z2 with z2 | z2
          · exact q z2
          · exact z z2)
/-- a state left that comes back to none before it: what waits from it on is a set of its own, and is closed -/
theorem tInv_close {n : Nat} {E : Nat → List Nat} {w : Nat → Bool} {r A B : List Nat} {ord low nx : Nat → Nat} {bad : Nat → Bool} {en v : Nat} (h : tInv n E w (v :: r) (A ++ v :: B) ord low nx bad en) (hn : nx v = (E v).length) (hl : low v = ord v) (low' : Nat → Nat) (hlow : ∀ p, p ∈ r → low' p = low p) (g : Bool)
    (g1 : g = true → (∃ x t, (x ∈ A ∨ x = v) ∧ t ∈ E x ∧ w t = true ∧ t ∉ A ++ v :: B ∧ bad t = true) ∨ (A = [] → v ∈ E v ∨ E v = []))
    (g2 : ∀ x t, (x ∈ A ∨ x = v) → t ∈ E x → w t = true → t ∉ A ++ v :: B → bad t = true → g = true) (g3 : A = [] → E v = [] → g = true)
    (bad' : Nat → Bool) (hb : ∀ x, (x ∈ A ∨ x = v) → bad' x = g) (hb' : ∀ x, ¬(x ∈ A ∨ x = v) → bad' x = bad x) :
    tInv n E w r B ord low' nx bad' en := by
  obtain ⟨a1, a2, a3, a4, a5, a6, a7, a8, a9, a10, a11, a12⟩ := h
  have hv : v ∈ A ++ v :: B := List.mem_append_right _ List.mem_cons_self
  have hA : ∀ x, x ∈ A → ord v < ord x := fun x hx => (List.pairwise_append.mp a3).2.2 x hx v List.mem_cons_self
  have hB : ∀ x, x ∈ B → ord x < ord v := fun x hx => (List.pairwise_cons.mp (List.pairwise_append.mp a3).2.1).1 x hx
  have iB : ∀ x, x ∈ B → x ∈ A ++ v :: B := fun x hx => List.mem_append_right _ (List.mem_cons_of_mem _ hx)
  have iS : ∀ x, (x ∈ A ∨ x = v) → x ∈ A ++ v :: B := fun x hx => by
    rcases hx with q | q
    · exact List.mem_append_left _ q
    · rw [q]; exact hv
  have dW : ∀ x, x ∈ A ++ v :: B → (x ∈ A ∨ x = v) ∨ x ∈ B := fun x hx => by
    rcases List.mem_append.mp hx with q | q
    · exact .inl (.inl q)
    · rcases List.mem_cons.mp q with q | q
      · exact .inl (.inr q)
      · exact .inr q
  have oS : ∀ x, (x ∈ A ∨ x = v) → ord v ≤ ord x := fun x hx => by
    rcases hx with q | q
    · exact Nat.le_of_lt (hA x q)
    · rw [q]; exact Nat.le_refl _
  have nSB : ∀ x, x ∈ B → ¬(x ∈ A ∨ x = v) := fun x hx q => by
    have := hB x hx
    have := oS x q
    omega
  have hr : ∀ p, p ∈ r → ord p < ord v := fun p hp => (List.pairwise_cons.mp a5).1 p hp
  have hrB : ∀ p, p ∈ r → p ∈ B := fun p hp => by
    rcases dW p (a4 p (List.mem_cons_of_mem _ hp)) with q | q
    · have := oS p q
      have := hr p hp
      omega
    · exact q
  have own : ∀ x, (x ∈ A ∨ x = v) → tOwn ord (v :: r) v x := fun x hx => ⟨List.mem_cons_self, oS x hx, fun p' f1 _ => by
    rcases List.mem_cons.mp f1 with z | z
    · rw [z]; exact Nat.le_refl _
    · exact Nat.le_of_lt (hr p' z)⟩
  have full : ∀ x, (x ∈ A ∨ x = v) → nx x = (E x).length := fun x hx => by
    by_cases q : x = v
    · rw [q]; exact hn
    · refine (a10 x (iS x hx)).2 (fun z => ?_)
      rcases List.mem_cons.mp z with z | z
      · exact q z
      · have := hr x z
        have := oS x hx
        omega
  have edge : ∀ x t, (x ∈ A ∨ x = v) → t ∈ E x → w t = true → ord t ≠ 0 ∧ ((t ∈ A ∨ t = v) ∨ t ∉ A ++ v :: B) := fun x t hx ht hwt => by
    obtain ⟨i, hi⟩ := List.getElem?_of_mem ht
    have hi2 := (List.getElem?_eq_some_iff.mp hi).1
    obtain ⟨c1, c2⟩ := a9 x (iS x hx) i t (by rw [full x hx]; exact hi2) hi hwt
    refine ⟨c1, ?_⟩
    by_cases q : t ∈ A ++ v :: B
    · have := c2 q v (own x hx)
      rcases dW t q with z | z
      · exact .inl z
      · have := hB t z
        omega
    · exact .inr q
  have stay : ∀ x y, (x ∈ A ∨ x = v) → tR E w x y → (y ∈ A ∨ y = v) ∨ (ord y ≠ 0 ∧ y ∉ A ++ v :: B) := fun x y hx hxy => by
    refine hxy (fun z => (z ∈ A ∨ z = v) ∨ (ord z ≠ 0 ∧ z ∉ A ++ v :: B)) (.inl hx) (fun z t hz ht hwt => ?_)
    rcases hz with hz | ⟨z1, z2⟩
    · obtain ⟨c1, c2⟩ := edge z t hz ht hwt
      rcases c2 with c2 | c2
      · exact .inl c2
      · exact .inr ⟨c1, c2⟩
    · exact .inr ((a11 z z1 z2).1 t ht hwt)
  have toV : ∀ x, (x ∈ A ∨ x = v) → tR E w x v := fun x hx => by
    obtain ⟨p, p1, p2, p3⟩ := a7 x (iS x hx)
    rcases List.mem_cons.mp p1 with q | q
    · rw [← q]; exact p3
    · rcases stay x p hx p3 with z | z
      · exact absurd z (nSB p (hrB p q))
      · exact absurd (iB p (hrB p q)) z.2
  have ofV : ∀ x, (x ∈ A ∨ x = v) → tR E w v x := fun x hx => a6 v List.mem_cons_self x (iS x hx) (oS x hx)
  have all : ∀ x y, (x ∈ A ∨ x = v) → (y ∈ A ∨ y = v) → tR E w x y := fun x y hx hy => (toV x hx).tr (ofV y hy)
  have wS : ∀ x, (x ∈ A ∨ x = v) → ord x ≠ 0 := fun x hx => by
    have := a1 x (iS x hx)
    omega
  have inner : A ≠ [] → ∃ x t, (x ∈ A ∨ x = v) ∧ (t ∈ A ∨ t = v) ∧ t ∈ E x ∧ w t = true := fun hne => by
    obtain ⟨y, hy⟩ := List.exists_mem_of_ne_nil A hne
    refine Classical.byContradiction (fun hno => ?_)
    have q : y = v ∨ (ord y ≠ 0 ∧ y ∉ A ++ v :: B) := by
      refine (ofV y (.inl hy)) (fun z => z = v ∨ (ord z ≠ 0 ∧ z ∉ A ++ v :: B)) (.inl rfl) (fun z t hz ht hwt => ?_)
      rcases hz with hz | ⟨z1, z2⟩
      · obtain ⟨c1, c2⟩ := edge z t (.inr hz) ht hwt
        rcases c2 with c2 | c2
        · exact absurd ⟨z, t, .inr hz, c2, ht, hwt⟩ hno
        · exact .inr ⟨c1, c2⟩
      · exact .inr ((a11 z z1 z2).1 t ht hwt)
    rcases q with q | q
    · have := hA y hy
      rw [q] at this
      omega
    · exact q.2 (iS y (.inl hy))
  have wit : g = true → ∀ x, (x ∈ A ∨ x = v) → tWit E w x := fun hg x hx => by
    rcases g1 hg with ⟨y, t, e1, e2, e3, e4, e5⟩ | e
    · exact tWit.of ((all x y hx e1).tr (tR.st e2 e3)) (a12 t e5).2.2
    · by_cases hne : A = []
      · rcases e hne with e | e
        · exact ⟨v, toV x hx, .inr ⟨v, e, (a2 v (wS v (.inr rfl))).2.1, tR.rf⟩⟩
        · exact ⟨v, toV x hx, .inl e⟩
      · obtain ⟨y, t, e1, e2, e3, e4⟩ := inner hne
        exact ⟨y, all x y hx e1, .inr ⟨t, e3, e4, all t y e2 e1⟩⟩
  refine ⟨fun x hx => a1 x (iB x hx), a2, (List.pairwise_cons.mp (List.pairwise_append.mp a3).2.1).2, hrB, (List.pairwise_cons.mp a5).2, fun p hp x hx => a6 p (List.mem_cons_of_mem _ hp) x (iB x hx), fun x hx => ?_, fun p hp => ?_, fun x hx i t hi ht hwt => ?_, fun x hx => ?_, fun s hs hsB => ?_, fun s hs => ?_⟩
  · obtain ⟨p, p1, p2, p3⟩ := a7 x (iB x hx)
    rcases List.mem_cons.mp p1 with q | q
    · have := hB x hx
      rw [q] at p2
      omega
    · exact ⟨p, q, p2, p3⟩
  · obtain ⟨b1, x, b2, b3, b4⟩ := a8 p (List.mem_cons_of_mem _ hp)
    rw [hlow p hp]
    refine ⟨b1, x, ?_, b3, b4⟩
    rcases dW x b2 with q | q
    · have := oS x q
      have := hr p hp
      omega
    · exact q
  · obtain ⟨c1, c2⟩ := a9 x (iB x hx) i t hi ht hwt
    refine ⟨c1, fun htw p hp => ?_⟩
    obtain ⟨d1, d2, d3⟩ := hp
    rw [hlow p d1]
    refine c2 (iB t htw) p ⟨List.mem_cons_of_mem _ d1, d2, fun p' f1 f2 => ?_⟩
    rcases List.mem_cons.mp f1 with z | z
    · have := hB x hx
      rw [z] at f2
      omega
    · exact d3 p' z f2
  · obtain ⟨b1, b2⟩ := a10 x (iB x hx)
    refine ⟨b1, fun z => b2 (fun z2 => ?_)⟩
    rcases List.mem_cons.mp z2 with z2 | z2
    · exact nSB x hx (.inr z2)
    · exact z z2
  · by_cases hS : s ∈ A ∨ s = v
    · refine ⟨fun t ht hwt => ?_, fun he => ?_, fun t ht hwt hbt => ?_⟩
      · obtain ⟨c1, c2⟩ := edge s t hS ht hwt
        refine ⟨c1, fun z => ?_⟩
        rcases c2 with c2 | c2
        · exact nSB t z c2
        · exact c2 (iB t z)
      · rw [hb s hS]
        have none : ∀ y, tR E w s y → y = s := fun y hy => hy (fun z => z = s) rfl (fun z t hz ht _ => by
          rw [hz, he] at ht
          exact (List.not_mem_nil ht).elim)
        have e1 : v = s := none v (toV s hS)
        refine g3 ?_ (by rw [e1]; exact he)
        refine Classical.byContradiction (fun hne => ?_)
        obtain ⟨y, hy⟩ := List.exists_mem_of_ne_nil A hne
        have e2 := none y (all s y hS (.inl hy))
        have := hA y hy
        rw [e2, e1] at this
        omega
      · rw [hb s hS]
        rcases (edge s t hS ht hwt).2 with c2 | c2
        · rw [← hb t c2]; exact hbt
        · refine g2 s t hS ht hwt c2 ?_
          rw [← hb' t (fun z => c2 (iS t z))]
          exact hbt
    · have hsw : s ∉ A ++ v :: B := fun z => by
        rcases dW s z with q | q
        · exact hS q
        · exact hsB q
      obtain ⟨b1, b2, b3⟩ := a11 s hs hsw
      refine ⟨fun t ht hwt => ?_, fun he => by rw [hb' s hS]; exact b2 he, fun t ht hwt hbt => ?_⟩
      · obtain ⟨c1, c2⟩ := b1 t ht hwt
        exact ⟨c1, fun z => c2 (iB t z)⟩
      · rw [hb' s hS]
        refine b3 t ht hwt ?_
        rw [← hb' t (fun z => (b1 t ht hwt).2 (iS t z))]
        exact hbt
  · by_cases hS : s ∈ A ∨ s = v
    · rw [hb s hS] at hs
      exact ⟨wS s hS, fun z => nSB s z hS, wit hs s hS⟩
    · rw [hb' s hS] at hs
      obtain ⟨b1, b2, b3⟩ := a12 s hs
      exact ⟨b1, fun z => b2 (iB s z), b3⟩
/-- with an empty path nothing waits -/
theorem tInv_end {n : Nat} {E : Nat → List Nat} {w : Nat → Bool} {wait : List Nat} {ord low nx : Nat → Nat} {bad : Nat → Bool} {en : Nat} (h : tInv n E w [] wait ord low nx bad en) : wait = [] := by
  obtain ⟨-, -, -, -, -, -, a7, -⟩ := h
  cases wait with
  | nil => rfl
  | cons x t =>
    obtain ⟨p, p1, -⟩ := a7 x List.mem_cons_self
    exact (List.not_mem_nil p1).elim
