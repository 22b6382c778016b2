/-! THE WALK FOR THE GREATEST SETS, as pure numbers: E x are the states to which x steps, w tells which states are without q; path and wait bear the top first; ord is 0 where nothing was entered yet -/
/-- y can be come to from x through states that w tells of -/
def tR (E : Nat → List Nat) (w : Nat → Bool) (a b : Nat) : Prop := ∀ P : Nat → Prop, P a → (∀ x y, P x → y ∈ E x → w y = true → P y) → P b
theorem tR.rf {E : Nat → List Nat} {w : Nat → Bool} {a : Nat} : tR E w a a := fun _ h _ => h
theorem tR.tr {E : Nat → List Nat} {w : Nat → Bool} {a b c : Nat} (h : tR E w a b) (h2 : tR E w b c) : tR E w a c := fun P ha hs => h2 P (h P ha hs) hs
theorem tR.st {E : Nat → List Nat} {w : Nat → Bool} {a b : Nat} (h : b ∈ E a) (hw : w b = true) : tR E w a b := fun _ ha hs => hs a b ha h hw
/-- from s a state without steps can be come to, or one that comes back to itself -/
def tWit (E : Nat → List Nat) (w : Nat → Bool) (s : Nat) : Prop := ∃ t, tR E w s t ∧ (E t = [] ∨ ∃ u, u ∈ E t ∧ w u = true ∧ tR E w u t)
theorem tWit.of {E : Nat → List Nat} {w : Nat → Bool} {a b : Nat} (h : tR E w a b) (h2 : tWit E w b) : tWit E w a := by
  obtain ⟨t, h3, h4⟩ := h2
  exact ⟨t, h.tr h3, h4⟩
def tU {α : Type} (f : Nat → α) (s : Nat) (v : α) : Nat → α := fun x => if x = s then v else f x
theorem tU_s {α : Type} {f : Nat → α} {s : Nat} {v : α} : tU f s v s = v := if_pos rfl
theorem tU_n {α : Type} {f : Nat → α} {s x : Nat} {v : α} (h : x ≠ s) : tU f s v x = f x := if_neg h
/-- p is the last of the path that was not entered behind x -/
def tOwn (ord : Nat → Nat) (path : List Nat) (p x : Nat) : Prop := p ∈ path ∧ ord p ≤ ord x ∧ ∀ p', p' ∈ path → ord p' ≤ ord x → ord p' ≤ ord p
def tInv (n : Nat) (E : Nat → List Nat) (w : Nat → Bool) (path wait : List Nat) (ord low nx : Nat → Nat) (bad : Nat → Bool) (en : Nat) : Prop :=
  (∀ x, x ∈ wait → 1 ≤ ord x) ∧ (∀ x, ord x ≠ 0 → x < n ∧ w x = true ∧ ord x ≤ en) ∧ wait.Pairwise (fun a b => ord b < ord a) ∧ (∀ p, p ∈ path → p ∈ wait) ∧ path.Pairwise (fun a b => ord b < ord a) ∧
  (∀ p, p ∈ path → ∀ x, x ∈ wait → ord p ≤ ord x → tR E w p x) ∧
  (∀ x, x ∈ wait → ∃ p, p ∈ path ∧ ord p ≤ ord x ∧ tR E w x p) ∧
  (∀ p, p ∈ path → low p ≤ ord p ∧ ∃ x, x ∈ wait ∧ ord x = low p ∧ tR E w p x) ∧
  (∀ x, x ∈ wait → ∀ i t, i < nx x → (E x)[i]? = some t → w t = true → ord t ≠ 0 ∧ (t ∈ wait → ∀ p, tOwn ord path p x → low p ≤ ord t)) ∧
  (∀ x, x ∈ wait → nx x ≤ (E x).length ∧ (x ∉ path → nx x = (E x).length)) ∧
  (∀ s, ord s ≠ 0 → s ∉ wait → (∀ t, t ∈ E s → w t = true → ord t ≠ 0 ∧ t ∉ wait) ∧ (E s = [] → bad s = true) ∧ (∀ t, t ∈ E s → w t = true → bad t = true → bad s = true)) ∧
  (∀ s, bad s = true → ord s ≠ 0 ∧ s ∉ wait ∧ tWit E w s)
theorem tInv_0 {n : Nat} {E : Nat → List Nat} {w : Nat → Bool} {ord low nx : Nat → Nat} {bad : Nat → Bool} {en : Nat} (h1 : ∀ x, ord x = 0) (h2 : ∀ x, bad x = false) : tInv n E w [] [] ord low nx bad en :=
  ⟨fun _ h => (List.not_mem_nil h).elim, fun x h => absurd (h1 x) h, List.Pairwise.nil, fun _ h => (List.not_mem_nil h).elim, List.Pairwise.nil, fun _ h => (List.not_mem_nil h).elim, fun _ h => (List.not_mem_nil h).elim, fun _ h => (List.not_mem_nil h).elim, fun _ h => (List.not_mem_nil h).elim, fun _ h => (List.not_mem_nil h).elim, fun s h => absurd (h1 s) h, fun s h => by rw [h2 s] at h; exact absurd h (by decide)⟩
/-- a state entered: the first of a walk, or by a step of the top -/
theorem tInv_enter {n : Nat} {E : Nat → List Nat} {w : Nat → Bool} {path wait : List Nat} {ord low nx : Nat → Nat} {bad : Nat → Bool} {en s : Nat} (h : tInv n E w path wait ord low nx bad en) (hs : s < n) (hw : w s = true) (h0 : ord s = 0) (nx' : Nat → Nat)
    (hp : (path = [] ∧ ∀ x, x ∈ wait → nx' x = nx x) ∨ ∃ v r, path = v :: r ∧ (E v)[nx v]? = some s ∧ nx' v = nx v + 1 ∧ ∀ x, x ≠ v → x ∈ wait → nx' x = nx x) :
    tInv n E w (s :: path) (s :: wait) (tU ord s (en + 1)) (tU low s (en + 1)) (tU nx' s 0) bad (en + 1) := by
  obtain ⟨a1, a2, a3, a4, a5, a6, a7, a8, a9, a10, a11, a12⟩ := h
  have hsw : s ∉ wait := fun q => by have := a1 s q; omega
  have hsp : s ∉ path := fun q => hsw (a4 s q)
  have o : ∀ x, x ∈ wait → tU ord s (en + 1) x = ord x := fun x hx => tU_n (fun e => hsw (e ▸ hx))
  have op : ∀ x, x ∈ path → tU ord s (en + 1) x = ord x := fun x hx => o x (a4 x hx)
  have lw : ∀ x, x ∈ path → tU low s (en + 1) x = low x := fun x hx => tU_n (fun e => hsp (e ▸ hx))
  have on : ∀ x, ord x ≠ 0 → tU ord s (en + 1) x = ord x := fun x hx => tU_n (fun e => by rw [e] at hx; exact hx h0)
  have ole : ∀ x, x ∈ wait → ord x ≤ en := fun x hx => (a2 x (by have := a1 x hx; omega)).2.2
  have hedge : ∀ p, p ∈ path → tR E w p s := by
    intro p hpp
    rcases hp with ⟨e, -⟩ | ⟨v, r, e, e2, -, -⟩
    · rw [e] at hpp
      exact (List.not_mem_nil hpp).elim
    · have hv : v ∈ path := by rw [e]; exact List.mem_cons_self
      have hle : ord p ≤ ord v := by
        rw [e] at hpp a5
        rcases List.mem_cons.mp hpp with q | q
        · rw [q]; exact Nat.le_refl _
        · exact Nat.le_of_lt ((List.pairwise_cons.mp a5).1 p q)
      exact (a6 p hpp v (a4 v hv) hle).tr (tR.st (List.mem_of_getElem? e2) hw)
  refine ⟨fun x hx => ?_, fun x hx => ?_, ?_, fun p hpp => ?_, ?_, fun p hpp x hx hle => ?_, fun x hx => ?_, fun p hpp => ?_, fun x hx i t hi ht hwt => ?_, fun x hx => ?_, fun x hx hxw => ?_, fun x hx => ?_⟩
  · rcases List.mem_cons.mp hx with q | q
    · rw [q, tU_s]; omega
    · rw [o x q]; exact a1 x q
  · by_cases q : x = s
    · rw [q, tU_s]
      exact ⟨hs, hw, Nat.le_refl _⟩
    · rw [tU_n q] at hx ⊢
      obtain ⟨b1, b2, b3⟩ := a2 x hx
      exact ⟨b1, b2, by omega⟩
  · refine List.pairwise_cons.mpr ⟨fun x hx => ?_, ?_⟩
    · rw [tU_s, o x hx]
      have := ole x hx
      omega
    · exact a3.imp_of_mem (fun ha hb hab => by rw [o _ ha, o _ hb]; exact hab)
  · rcases List.mem_cons.mp hpp with q | q
    · rw [q]; exact List.mem_cons_self
    · exact List.mem_cons_of_mem _ (a4 p q)
  · refine List.pairwise_cons.mpr ⟨fun x hx => ?_, ?_⟩
    · rw [tU_s, op x hx]
      have := ole x (a4 x hx)
      omega
    · exact a5.imp_of_mem (fun ha hb hab => by rw [op _ ha, op _ hb]; exact hab)
  · rcases List.mem_cons.mp hpp with q | q
    · rcases List.mem_cons.mp hx with q2 | q2
      · rw [q, q2]; exact tR.rf
      · rw [q, tU_s, o x q2] at hle
        have := ole x q2
        omega
    · rcases List.mem_cons.mp hx with q2 | q2
      · rw [q2]; exact hedge p q
      · rw [op p q, o x q2] at hle
        exact a6 p q x q2 hle
  · rcases List.mem_cons.mp hx with q | q
    · exact ⟨s, List.mem_cons_self, by rw [q]; exact Nat.le_refl _, by rw [q]; exact tR.rf⟩
    · obtain ⟨p, b1, b2, b3⟩ := a7 x q
      exact ⟨p, List.mem_cons_of_mem _ b1, by rw [op p b1, o x q]; exact b2, b3⟩
  · rcases List.mem_cons.mp hpp with q | q
    · rw [q]
      exact ⟨by rw [tU_s, tU_s]; exact Nat.le_refl _, s, List.mem_cons_self, by rw [tU_s, tU_s], tR.rf⟩
    · obtain ⟨b1, x, b2, b3, b4⟩ := a8 p q
      exact ⟨by rw [lw p q, op p q]; exact b1, x, List.mem_cons_of_mem _ b2, by rw [lw p q, o x b2]; exact b3, b4⟩
  · rcases List.mem_cons.mp hx with q | q
    · rw [q, tU_s] at hi
      omega
    · have hxs : x ≠ s := fun e => hsw (e ▸ q)
      rw [tU_n hxs] at hi
      have main : ord t ≠ 0 → (t ∈ wait → ∀ p, tOwn ord path p x → low p ≤ ord t) → tU ord s (en + 1) t ≠ 0 ∧ (t ∈ s :: wait → ∀ p, tOwn (tU ord s (en + 1)) (s :: path) p x → tU low s (en + 1) p ≤ tU ord s (en + 1) t) := by
        intro c1 c2
        refine ⟨by rw [on t c1]; exact c1, fun c3 p c4 => ?_⟩
        obtain ⟨d1, d2, d3⟩ := c4
        rw [o x q] at d2
        have hps : p ∈ path := by
          rcases List.mem_cons.mp d1 with z | z
          · rw [z, tU_s] at d2
            have := ole x q
            omega
          · exact z
        have htw : t ∈ wait := by
          rcases List.mem_cons.mp c3 with z | z
          · rw [z] at c1; exact absurd h0 c1
          · exact z
        rw [lw p hps, on t c1]
        refine c2 htw p ⟨hps, by rw [op p hps] at d2; exact d2, fun p' e1 e2 => ?_⟩
        have := d3 p' (List.mem_cons_of_mem _ e1) (by rw [op p' e1, o x q]; exact e2)
        rw [op p' e1, op p hps] at this
        exact this
      rcases hp with ⟨e, e2⟩ | ⟨v, r, e, e2, e3, e4⟩
      · rw [e2 x q] at hi
        obtain ⟨c1, c2⟩ := a9 x q i t hi ht hwt
        exact main c1 c2
      · by_cases hxv : x = v
        · subst hxv
          rw [e3] at hi
          by_cases hi2 : i < nx x
          · obtain ⟨c1, c2⟩ := a9 x q i t hi2 ht hwt
            exact main c1 c2
          · have hi3 : i = nx x := by omega
            rw [hi3, e2] at ht
            cases ht
            refine ⟨by rw [tU_s]; omega, fun _ p c4 => ?_⟩
            obtain ⟨d1, d2, d3⟩ := c4
            rw [o x q] at d2
            have hps : p ∈ path := by
              rcases List.mem_cons.mp d1 with z | z
              · rw [z, tU_s] at d2
                have := ole x q
                omega
              · exact z
            rw [lw p hps, tU_s]
            have b1 := (a8 p hps).1
            have b2 := ole p (a4 p hps)
            omega
        · rw [e4 x hxv q] at hi
          obtain ⟨c1, c2⟩ := a9 x q i t hi ht hwt
          exact main c1 c2
  · rcases List.mem_cons.mp hx with q | q
    · rw [q, tU_s]
      exact ⟨Nat.zero_le _, fun z => absurd List.mem_cons_self z⟩
    · have hxs : x ≠ s := fun e => hsw (e ▸ q)
      rw [tU_n hxs]
      obtain ⟨b1, b2⟩ := a10 x q
      rcases hp with ⟨e, e2⟩ | ⟨v, r, e, e2, e3, e4⟩
      · rw [e2 x q]
        exact ⟨b1, fun z => b2 (fun z2 => z (List.mem_cons_of_mem _ z2))⟩
      · by_cases hxv : x = v
        · subst hxv
          rw [e3]
          have := (List.getElem?_eq_some_iff.mp e2).1
          exact ⟨by omega, fun z => absurd (List.mem_cons_of_mem _ (by rw [e]; exact List.mem_cons_self)) z⟩
        · rw [e4 x hxv q]
          exact ⟨b1, fun z => b2 (fun z2 => z (List.mem_cons_of_mem _ z2))⟩
  · have hxs : x ≠ s := fun e => hxw (by rw [e]; exact List.mem_cons_self)
    rw [tU_n hxs] at hx
    obtain ⟨b1, b2, b3⟩ := a11 x hx (fun z => hxw (List.mem_cons_of_mem _ z))
    refine ⟨fun t ht hwt => ?_, b2, b3⟩
    obtain ⟨c1, c2⟩ := b1 t ht hwt
    refine ⟨by rw [on t c1]; exact c1, fun z => ?_⟩
    rcases List.mem_cons.mp z with z | z
    · rw [z] at c1; exact c1 h0
    · exact c2 z
  · obtain ⟨b1, b2, b3⟩ := a12 x hx
    refine ⟨by rw [on x b1]; exact b1, fun z => ?_, b3⟩
    rcases List.mem_cons.mp z with z | z
    · rw [z] at b1; exact b1 h0
    · exact b2 z
/-- a step of the top followed to a state that isn't entered by it: q holds there, or it is entered already -/
theorem tInv_follow {n : Nat} {E : Nat → List Nat} {w : Nat → Bool} {r wait : List Nat} {ord low nx : Nat → Nat} {bad : Nat → Bool} {en v t : Nat} (h : tInv n E w (v :: r) wait ord low nx bad en) (ht : (E v)[nx v]? = some t) (low' : Nat → Nat)
    (hc : (w t = false ∧ low' = low) ∨ (ord t ≠ 0 ∧ t ∉ wait ∧ low' = low) ∨ (w t = true ∧ ord t ≠ 0 ∧ t ∈ wait ∧ low' = tU low v (min (low v) (ord t)))) :
    tInv n E w (v :: r) wait ord low' (tU nx v (nx v + 1)) bad en := by
  obtain ⟨a1, a2, a3, a4, a5, a6, a7, a8, a9, a10, a11, a12⟩ := h
  have hv : v ∈ wait := a4 v List.mem_cons_self
  have hlow : ∀ p, low' p ≤ low p := by
    intro p
    rcases hc with ⟨-, e⟩ | ⟨-, -, e⟩ | ⟨-, -, -, e⟩
    · rw [e]; exact Nat.le_refl _
    · rw [e]; exact Nat.le_refl _
    · rw [e]
      by_cases q : p = v
      · rw [q, tU_s]; exact Nat.min_le_left _ _
      · rw [tU_n q]; exact Nat.le_refl _
  refine ⟨a1, a2, a3, a4, a5, a6, a7, fun p hp => ?_, fun x hx i t' hi ht' hwt => ?_, fun x hx => ?_, a11, a12⟩
  · obtain ⟨b1, x, b2, b3, b4⟩ := a8 p hp
    refine ⟨Nat.le_trans (hlow p) b1, ?_⟩
    rcases hc with ⟨-, e⟩ | ⟨-, -, e⟩ | ⟨c1, c2, c3, e⟩
    · rw [e]; exact ⟨x, b2, b3, b4⟩
    · rw [e]; exact ⟨x, b2, b3, b4⟩
    · rw [e]
      by_cases q : p = v
      · rw [q, tU_s]
        rw [q] at b3 b4
        by_cases hm : low v ≤ ord t
        · rw [Nat.min_eq_left hm]
          exact ⟨x, b2, b3, b4⟩
        · rw [Nat.min_eq_right (by omega)]
          exact ⟨t, c3, rfl, tR.st (List.mem_of_getElem? ht) c1⟩
      · rw [tU_n q]
        exact ⟨x, b2, b3, b4⟩
  · by_cases hxv : x = v
    · subst hxv
      rw [tU_s] at hi
      by_cases hi2 : i < nx x
      · obtain ⟨c1, c2⟩ := a9 x hx i t' hi2 ht' hwt
        exact ⟨c1, fun z p hp => Nat.le_trans (hlow p) (c2 z p hp)⟩
      · have hi3 : i = nx x := by omega
        rw [hi3, ht] at ht'
        cases ht'
        rcases hc with ⟨c1, -⟩ | ⟨c1, c2, -⟩ | ⟨-, c2, c3, e⟩
        · rw [c1] at hwt; exact absurd hwt (by decide)
        · exact ⟨c1, fun z => absurd z c2⟩
        · refine ⟨c2, fun _ p hp => ?_⟩
          have hpx : ord x ≤ ord p := hp.2.2 x List.mem_cons_self (Nat.le_refl _)
          have hpv : p = x := by
            rcases List.mem_cons.mp hp.1 with z | z
            · exact z
            · have := (List.pairwise_cons.mp a5).1 p z
              omega
          rw [hpv, e, tU_s]
          exact Nat.min_le_right _ _
    · rw [tU_n hxv] at hi
      obtain ⟨c1, c2⟩ := a9 x hx i t' hi ht' hwt
      exact ⟨c1, fun z p hp => Nat.le_trans (hlow p) (c2 z p hp)⟩
  · by_cases hxv : x = v
    · subst hxv
      rw [tU_s]
      have := (List.getElem?_eq_some_iff.mp ht).1
      exact ⟨by omega, fun z => absurd List.mem_cons_self z⟩
    · rw [tU_n hxv]
      exact a10 x hx
