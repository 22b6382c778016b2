/-! the walk's numbers as the heap tells them -/
/-- what the walk leaves alone -/
def xTf (σ0 σ : zS) : Prop := zn σ = zn σ0 ∧ zK σ = zK σ0 ∧ zL σ = zL σ0 ∧ zG σ = zG σ0 ∧ zR σ = zR σ0 ∧ zJ σ = zJ σ0 ∧ (∀ c k a, c ≠ 4 → zF σ c k a = zF σ0 c k a) ∧ (∀ a, ¬ (22 ≤ a ∧ a ≤ 29) → zI σ a = zI σ0 a) ∧ zI σ 22 = zI σ0 22 ∧ zF σ 4 11 21 = zF σ0 4 11 21
theorem xTf.rf (σ : zS) : xTf σ σ := ⟨rfl, rfl, rfl, rfl, rfl, rfl, fun _ _ _ _ => rfl, fun _ _ => rfl, rfl, rfl⟩
theorem xTf.tr {σ0 σ σ' : zS} (h : xTf σ0 σ) (h' : xTf σ σ') : xTf σ0 σ' := by
  obtain ⟨a1, a2, a3, a4, a5, a6, a7, a8, a9, a10⟩ := h
  obtain ⟨b1, b2, b3, b4, b5, b6, b7, b8, b9, b10⟩ := h'
  exact ⟨b1.trans a1, b2.trans a2, b3.trans a3, b4.trans a4, b5.trans a5, b6.trans a6, fun c k a q => (b7 c k a q).trans (a7 c k a q), fun a q => (b8 a q).trans (a8 a q), b9.trans a9, b10.trans a10⟩
theorem xTf.I {σ0 σ : zS} {a i : Nat} {x : Int32} (h : xTf σ0 σ) (h1 : 23 ≤ a) (h2 : a ≤ 29) : xTf σ0 (zsI σ a i x) := by
  refine h.tr ⟨rfl, rfl, rfl, rfl, rfl, rfl, fun _ _ _ _ => rfl, fun b hb => funext fun j => ?_, funext fun j => ?_, rfl⟩
  · rw [zI_zsI, if_neg (fun q => hb (by rw [q.1]; exact ⟨by omega, h2⟩))]
  · rw [zI_zsI, if_neg (fun q => by have := q.1; omega)]
theorem xTf.F {σ0 σ : zS} {k a : Nat} {x : Int32} (h : xTf σ0 σ) (h1 : k ≠ 11) : xTf σ0 (zsF σ 4 k a x) := by
  refine h.tr ⟨rfl, rfl, rfl, rfl, rfl, rfl, fun c k' a' hc => ?_, fun _ _ => rfl, rfl, ?_⟩
  · rw [zF_zsF, if_neg (fun q => hc q.1)]
  · rw [zF_zsF, if_neg (fun q => h1 q.2.1.symm)]
theorem xTf.Mrk {σ0 σ : zS} {g : Int32} (h : xTf σ0 σ) : ∀ l : List Nat, xTf σ0 (xMrk σ g l)
  | [] => h
  | x :: r => ((h.Mrk r).I (by decide) (by decide)).I (by decide) (by decide)
theorem xTf.sh {σ0 σ : zS} (h : xTf σ0 σ) (hs : xSh σ0) : xSh σ := by
  refine ⟨fun q hq => ?_, fun q hq => ?_, fun q hq => ?_⟩
  · rw [h.2.1]; exact hs.1 q hq
  · rw [h.2.2.1]; exact hs.2.1 q hq
  · rw [h.2.2.2.1]; exact hs.2.2 q hq
theorem xTf.gr {σ0 σ : zS} (h : xTf σ0 σ) {pk n T : Nat} {fs : Nat → Nat} {E : Nat → List Nat} (hg : xGr σ0 pk n T fs E) : xGr σ pk n T fs E := by
  obtain ⟨a1, a2, a3, a4, a5, a6, a7, a8, a9, a10⟩ := h
  obtain ⟨g1, g2, g3, g4, g5, g6, g7, g8⟩ := hg
  have hpk : ¬ (22 ≤ pk ∧ pk ≤ 29) := by rcases g1.2.2 with e | e <;> omega
  refine ⟨⟨by rw [a4]; exact g1.1, by rw [a2]; exact g1.2.1, g1.2.2⟩, g2, by rw [a3]; exact g3, by rw [a3]; exact g4, fun s hs => by rw [a8 14 (by decide)]; exact g5 s hs, g6, g7, fun s hs j t hj => ?_⟩
  rw [a8 pk hpk]
  exact g8 s hs j t hj
def xTs (σ : zS) (n : Nat) (w bad : Nat → Bool) (path wait : List Nat) (ord low nx : Nat → Nat) (en : Nat) : Prop :=
  (zF σ 4 8 21 = nI path.length ∧ zF σ 4 9 21 = nI wait.length ∧ zF σ 4 10 21 = nI en) ∧
  (∀ t, t < n → zI σ 22 t = zb (w t) ∧ zI σ 23 t = zb (decide (t ∈ wait)) ∧ zI σ 24 t = zb (bad t)) ∧
  (∀ t, t < n → zI σ 25 t = nI (ord t)) ∧ (∀ t, t < n → ord t ≠ 0 → zI σ 26 t = nI (low t) ∧ zI σ 27 t = nI (nx t)) ∧
  (∀ R x, (x :: R) <:+ path → zI σ 28 R.length = nI x) ∧ (∀ R x, (x :: R) <:+ wait → zI σ 29 R.length = nI x)
theorem sfx_cons {α : Type} {x s : α} {R l : List α} (h : (x :: R) <:+ s :: l) : (x = s ∧ R = l) ∨ (x :: R) <:+ l := by
  rcases List.suffix_cons_iff.mp h with e | e
  · exact Or.inl (List.cons.inj e)
  · exact Or.inr e
theorem sfx_len {α : Type} {x : α} {R l : List α} (h : (x :: R) <:+ l) : R.length < l.length := by
  have := h.length_le
  rw [List.length_cons] at this
  omega
theorem xEnt_22 {σ : zS} {s en pl wl : Nat} (j : Nat) : zI (xEnt σ s en pl wl) 22 j = zI σ 22 j := by
  unfold xEnt
  rw [zI_zsI, if_neg (fun q => absurd q.1 (by decide)), zI_zsF, zI_zsI, if_neg (fun q => absurd q.1 (by decide)), zI_zsF, zI_zsI, if_neg (fun q => absurd q.1 (by decide)), zI_zsI, if_neg (fun q => absurd q.1 (by decide)), zI_zsI, if_neg (fun q => absurd q.1 (by decide)), zI_zsI, if_neg (fun q => absurd q.1 (by decide)), zI_zsF]
theorem xEnt_23 {σ : zS} {s en pl wl : Nat} (j : Nat) : zI (xEnt σ s en pl wl) 23 j = if j = s then 1 else zI σ 23 j := by
  unfold xEnt
  by_cases h : j = s
  · rw [zI_zsI, if_pos ⟨rfl, h⟩, if_pos h]
  · rw [zI_zsI, if_neg (fun q => h q.2), zI_zsF, zI_zsI, if_neg (fun q => absurd q.1 (by decide)), zI_zsF, zI_zsI, if_neg (fun q => absurd q.1 (by decide)), zI_zsI, if_neg (fun q => absurd q.1 (by decide)), zI_zsI, if_neg (fun q => absurd q.1 (by decide)), zI_zsI, if_neg (fun q => absurd q.1 (by decide)), zI_zsF, if_neg h]
theorem xEnt_24 {σ : zS} {s en pl wl : Nat} (j : Nat) : zI (xEnt σ s en pl wl) 24 j = zI σ 24 j := by
  unfold xEnt
  rw [zI_zsI, if_neg (fun q => absurd q.1 (by decide)), zI_zsF, zI_zsI, if_neg (fun q => absurd q.1 (by decide)), zI_zsF, zI_zsI, if_neg (fun q => absurd q.1 (by decide)), zI_zsI, if_neg (fun q => absurd q.1 (by decide)), zI_zsI, if_neg (fun q => absurd q.1 (by decide)), zI_zsI, if_neg (fun q => absurd q.1 (by decide)), zI_zsF]
theorem xEnt_25 {σ : zS} {s en pl wl : Nat} (j : Nat) : zI (xEnt σ s en pl wl) 25 j = if j = s then nI (en + 1) else zI σ 25 j := by
  unfold xEnt
  by_cases h : j = s
  · rw [zI_zsI, if_neg (fun q => absurd q.1 (by decide)), zI_zsF, zI_zsI, if_neg (fun q => absurd q.1 (by decide)), zI_zsF, zI_zsI, if_neg (fun q => absurd q.1 (by decide)), zI_zsI, if_neg (fun q => absurd q.1 (by decide)), zI_zsI, if_neg (fun q => absurd q.1 (by decide)), zI_zsI, if_pos ⟨rfl, h⟩, if_pos h]
  · rw [zI_zsI, if_neg (fun q => absurd q.1 (by decide)), zI_zsF, zI_zsI, if_neg (fun q => absurd q.1 (by decide)), zI_zsF, zI_zsI, if_neg (fun q => absurd q.1 (by decide)), zI_zsI, if_neg (fun q => absurd q.1 (by decide)), zI_zsI, if_neg (fun q => absurd q.1 (by decide)), zI_zsI, if_neg (fun q => h q.2), zI_zsF, if_neg h]
theorem xEnt_26 {σ : zS} {s en pl wl : Nat} (j : Nat) : zI (xEnt σ s en pl wl) 26 j = if j = s then nI (en + 1) else zI σ 26 j := by
  unfold xEnt
  by_cases h : j = s
  · rw [zI_zsI, if_neg (fun q => absurd q.1 (by decide)), zI_zsF, zI_zsI, if_neg (fun q => absurd q.1 (by decide)), zI_zsF, zI_zsI, if_neg (fun q => absurd q.1 (by decide)), zI_zsI, if_neg (fun q => absurd q.1 (by decide)), zI_zsI, if_pos ⟨rfl, h⟩, if_pos h]
  · rw [zI_zsI, if_neg (fun q => absurd q.1 (by decide)), zI_zsF, zI_zsI, if_neg (fun q => absurd q.1 (by decide)), zI_zsF, zI_zsI, if_neg (fun q => absurd q.1 (by decide)), zI_zsI, if_neg (fun q => absurd q.1 (by decide)), zI_zsI, if_neg (fun q => h q.2), zI_zsI, if_neg (fun q => absurd q.1 (by decide)), zI_zsF, if_neg h]
theorem xEnt_27 {σ : zS} {s en pl wl : Nat} (j : Nat) : zI (xEnt σ s en pl wl) 27 j = if j = s then 0 else zI σ 27 j := by
  unfold xEnt
  by_cases h : j = s
  · rw [zI_zsI, if_neg (fun q => absurd q.1 (by decide)), zI_zsF, zI_zsI, if_neg (fun q => absurd q.1 (by decide)), zI_zsF, zI_zsI, if_neg (fun q => absurd q.1 (by decide)), zI_zsI, if_pos ⟨rfl, h⟩, if_pos h]
  · rw [zI_zsI, if_neg (fun q => absurd q.1 (by decide)), zI_zsF, zI_zsI, if_neg (fun q => absurd q.1 (by decide)), zI_zsF, zI_zsI, if_neg (fun q => absurd q.1 (by decide)), zI_zsI, if_neg (fun q => h q.2), zI_zsI, if_neg (fun q => absurd q.1 (by decide)), zI_zsI, if_neg (fun q => absurd q.1 (by decide)), zI_zsF, if_neg h]
theorem xEnt_28 {σ : zS} {s en pl wl : Nat} (j : Nat) : zI (xEnt σ s en pl wl) 28 j = if j = pl then nI s else zI σ 28 j := by
  unfold xEnt
  by_cases h : j = pl
  · rw [zI_zsI, if_neg (fun q => absurd q.1 (by decide)), zI_zsF, zI_zsI, if_neg (fun q => absurd q.1 (by decide)), zI_zsF, zI_zsI, if_pos ⟨rfl, h⟩, if_pos h]
  · rw [zI_zsI, if_neg (fun q => absurd q.1 (by decide)), zI_zsF, zI_zsI, if_neg (fun q => absurd q.1 (by decide)), zI_zsF, zI_zsI, if_neg (fun q => h q.2), zI_zsI, if_neg (fun q => absurd q.1 (by decide)), zI_zsI, if_neg (fun q => absurd q.1 (by decide)), zI_zsI, if_neg (fun q => absurd q.1 (by decide)), zI_zsF, if_neg h]
theorem xEnt_29 {σ : zS} {s en pl wl : Nat} (j : Nat) : zI (xEnt σ s en pl wl) 29 j = if j = wl then nI s else zI σ 29 j := by
  unfold xEnt
  by_cases h : j = wl
  · rw [zI_zsI, if_neg (fun q => absurd q.1 (by decide)), zI_zsF, zI_zsI, if_pos ⟨rfl, h⟩, if_pos h]
  · rw [zI_zsI, if_neg (fun q => absurd q.1 (by decide)), zI_zsF, zI_zsI, if_neg (fun q => h q.2), zI_zsF, zI_zsI, if_neg (fun q => absurd q.1 (by decide)), zI_zsI, if_neg (fun q => absurd q.1 (by decide)), zI_zsI, if_neg (fun q => absurd q.1 (by decide)), zI_zsI, if_neg (fun q => absurd q.1 (by decide)), zI_zsF, if_neg h]
theorem xEnt_F8 {σ : zS} {s en pl wl : Nat} : zF (xEnt σ s en pl wl) 4 8 21 = nI (pl + 1) := by
  unfold xEnt
  rw [zF_zsI, zF_zsF, if_neg (fun q => absurd q.2.1 (by decide)), zF_zsI, zF_zsF, if_pos ⟨rfl, rfl, rfl⟩]
theorem xEnt_F9 {σ : zS} {s en pl wl : Nat} : zF (xEnt σ s en pl wl) 4 9 21 = nI (wl + 1) := by
  unfold xEnt
  rw [zF_zsI, zF_zsF, if_pos ⟨rfl, rfl, rfl⟩]
theorem xEnt_F10 {σ : zS} {s en pl wl : Nat} : zF (xEnt σ s en pl wl) 4 10 21 = nI (en + 1) := by
  unfold xEnt
  rw [zF_zsI, zF_zsF, if_neg (fun q => absurd q.2.1 (by decide)), zF_zsI, zF_zsF, if_neg (fun q => absurd q.2.1 (by decide)), zF_zsI, zF_zsI, zF_zsI, zF_zsI, zF_zsF, if_pos ⟨rfl, rfl, rfl⟩]
theorem xTf.Ent {σ0 σ : zS} {s en pl wl : Nat} (h : xTf σ0 σ) : xTf σ0 (xEnt σ s en pl wl) := by
  unfold xEnt
  exact (((((((((h.F (by decide)).I (by decide) (by decide)).I (by decide) (by decide)).I (by decide) (by decide)).I (by decide) (by decide)).F (by decide)).I (by decide) (by decide)).F (by decide)).I (by decide) (by decide))
theorem tU_if {α : Type} (f : Nat → α) (s : Nat) (v : α) (x : Nat) : tU f s v x = if x = s then v else f x := rfl
theorem xTs_enter {σ : zS} {n : Nat} {w bad : Nat → Bool} {path wait : List Nat} {ord low nx : Nat → Nat} {en s : Nat} (h : xTs σ n w bad path wait ord low nx en) : xTs (xEnt σ s en path.length wait.length) n w bad (s :: path) (s :: wait) (tU ord s (en + 1)) (tU low s (en + 1)) (tU nx s 0) (en + 1) := by
  obtain ⟨⟨f1, f2, f3⟩, h1, h2, h3, h4, h5⟩ := h
  refine ⟨⟨xEnt_F8, xEnt_F9, xEnt_F10⟩, fun t ht => ⟨?_, ?_, ?_⟩, fun t ht => ?_, fun t ht ho => ?_, fun R x hx => ?_, fun R x hx => ?_⟩
  · rw [xEnt_22]; exact (h1 t ht).1
  · rw [xEnt_23, (h1 t ht).2.1]
    by_cases e : t = s
    · rw [if_pos e, decide_eq_true (by rw [e]; exact List.mem_cons_self)]; rfl
    · rw [if_neg e]
      congr 1
      exact decide_eq_decide.mpr ⟨fun q => List.mem_cons_of_mem _ q, fun q => (List.mem_cons.mp q).resolve_left e⟩
  · rw [xEnt_24]; exact (h1 t ht).2.2
  · rw [xEnt_25, tU_if]
    by_cases e : t = s
    · rw [if_pos e, if_pos e]
    · rw [if_neg e, if_neg e]; exact h2 t ht
  · rw [xEnt_26, xEnt_27, tU_if, tU_if]
    rw [tU_if] at ho
    by_cases e : t = s
    · rw [if_pos e, if_pos e, if_pos e, if_pos e, nI_0]
      exact ⟨rfl, rfl⟩
    · rw [if_neg e] at ho
      rw [if_neg e, if_neg e, if_neg e, if_neg e]
      exact h3 t ht ho
  · rw [xEnt_28]
    rcases sfx_cons hx with ⟨rfl, rfl⟩ | q
    · rw [if_pos rfl]
    · rw [if_neg (by have := sfx_len q; omega)]
      exact h4 R x q
  · rw [xEnt_29]
    rcases sfx_cons hx with ⟨rfl, rfl⟩ | q
    · rw [if_pos rfl]
    · rw [if_neg (by have := sfx_len q; omega)]
      exact h5 R x q
theorem xTs_nx {σ : zS} {n : Nat} {w bad : Nat → Bool} {path wait : List Nat} {ord low nx : Nat → Nat} {en v x : Nat} (h : xTs σ n w bad path wait ord low nx en) : xTs (zsI σ 27 v (nI x)) n w bad path wait ord low (tU nx v x) en := by
  obtain ⟨hf, h1, h2, h3, h4, h5⟩ := h
  have o : ∀ a, a ≠ 27 → zI (zsI σ 27 v (nI x)) a = zI σ a := fun a ha => funext fun j => by rw [zI_zsI, if_neg (fun q => ha q.1)]
  refine ⟨hf, fun t ht => by rw [o 22 (by decide), o 23 (by decide), o 24 (by decide)]; exact h1 t ht, fun t ht => by rw [o 25 (by decide)]; exact h2 t ht, fun t ht ho => ?_, fun R y hy => by rw [o 28 (by decide)]; exact h4 R y hy, fun R y hy => by rw [o 29 (by decide)]; exact h5 R y hy⟩
  rw [o 26 (by decide), zI_zsI, tU_if]
  refine ⟨(h3 t ht ho).1, ?_⟩
  by_cases e : t = v
  · rw [if_pos ⟨rfl, e⟩, if_pos e]
  · rw [if_neg (fun q => e q.2), if_neg e]
    exact (h3 t ht ho).2
theorem xTs_low {σ : zS} {n : Nat} {w bad : Nat → Bool} {path wait : List Nat} {ord low nx : Nat → Nat} {en v x : Nat} (h : xTs σ n w bad path wait ord low nx en) : xTs (zsI σ 26 v (nI x)) n w bad path wait ord (tU low v x) nx en := by
  obtain ⟨hf, h1, h2, h3, h4, h5⟩ := h
  have o : ∀ a, a ≠ 26 → zI (zsI σ 26 v (nI x)) a = zI σ a := fun a ha => funext fun j => by rw [zI_zsI, if_neg (fun q => ha q.1)]
  refine ⟨hf, fun t ht => by rw [o 22 (by decide), o 23 (by decide), o 24 (by decide)]; exact h1 t ht, fun t ht => by rw [o 25 (by decide)]; exact h2 t ht, fun t ht ho => ?_, fun R y hy => by rw [o 28 (by decide)]; exact h4 R y hy, fun R y hy => by rw [o 29 (by decide)]; exact h5 R y hy⟩
  rw [o 27 (by decide), zI_zsI, tU_if]
  refine ⟨?_, (h3 t ht ho).2⟩
  by_cases e : t = v
  · rw [if_pos ⟨rfl, e⟩, if_pos e]
  · rw [if_neg (fun q => e q.2), if_neg e]
    exact (h3 t ht ho).1
theorem xTs_pop {σ : zS} {n : Nat} {w bad : Nat → Bool} {path wait : List Nat} {ord low nx : Nat → Nat} {en v : Nat} (h : xTs σ n w bad (v :: path) wait ord low nx en) : xTs (zsF σ 4 8 21 (nI path.length)) n w bad path wait ord low nx en := by
  obtain ⟨⟨f1, f2, f3⟩, h1, h2, h3, h4, h5⟩ := h
  exact ⟨⟨by rw [zF_zsF, if_pos ⟨rfl, rfl, rfl⟩], by rw [zF_zsF, if_neg (by decide)]; exact f2, by rw [zF_zsF, if_neg (by decide)]; exact f3⟩, h1, h2, h3, fun R x hx => h4 R x (hx.trans (List.suffix_cons _ _)), h5⟩
theorem xTs_close {σ : zS} {n : Nat} {w bad : Nat → Bool} {path A B : List Nat} {ord low nx : Nat → Nat} {en v : Nat} {f y : Int32} {g nb : Bool} (h : xTs σ n w bad path (A ++ v :: B) ord low nx en) (hnd : (A ++ v :: B).Nodup) : xTs (zsF (xMrk (zsF (xLk σ f (zb g)) 4 12 21 y) (zb nb) (A ++ [v])) 4 9 21 (nI B.length)) n w (fun x => if x ∈ A ++ [v] then nb else bad x) path B ord low nx en := by
  obtain ⟨⟨f1, f2, f3⟩, h1, h2, h3, h4, h5⟩ := h
  have e0 : ∀ k, k ≠ 9 → k ≠ 12 → k ≠ 13 → k ≠ 14 → zF (zsF (xMrk (zsF (xLk σ f (zb g)) 4 12 21 y) (zb nb) (A ++ [v])) 4 9 21 (nI B.length)) 4 k 21 = zF σ 4 k 21 := fun k k1 k2 k3 k4 => by
    rw [zF_zsF, if_neg (fun q => k1 q.2.1), xMrk_F, zF_zsF, if_neg (fun q => k2 q.2.1)]
    unfold xLk
    rw [zF_zsF, if_neg (fun q => k4 q.2.1), zF_zsF, if_neg (fun q => k3 q.2.1)]
  have e1 : ∀ a, a ≠ 23 → a ≠ 24 → zI (zsF (xMrk (zsF (xLk σ f (zb g)) 4 12 21 y) (zb nb) (A ++ [v])) 4 9 21 (nI B.length)) a = zI σ a := fun a a1 a2 => by
    rw [zI_zsF, xMrk_I _ a1 a2]
    rfl
  have eB : ∀ t, t ∈ B ↔ t ∈ A ++ v :: B ∧ t ∉ A ++ [v] := by
    intro t
    have hd := List.nodup_append.mp hnd
    constructor
    · intro ht
      refine ⟨List.mem_append_right _ (List.mem_cons_of_mem _ ht), fun q => ?_⟩
      rcases List.mem_append.mp q with q | q
      · exact hd.2.2 t q t (List.mem_cons_of_mem _ ht) rfl
      · rw [List.mem_singleton.mp q] at ht
        exact (List.nodup_cons.mp hd.2.1).1 ht
    · rintro ⟨h1, h2⟩
      rcases List.mem_append.mp h1 with q | q
      · exact absurd (List.mem_append_left _ q) h2
      · rcases List.mem_cons.mp q with q | q
        · exact absurd (List.mem_append_right _ (List.mem_singleton.mpr q)) h2
        · exact q
  refine ⟨⟨(e0 8 (by decide) (by decide) (by decide) (by decide)).trans f1, by rw [zF_zsF, if_pos ⟨rfl, rfl, rfl⟩], (e0 10 (by decide) (by decide) (by decide) (by decide)).trans f3⟩, fun t ht => ⟨?_, ?_, ?_⟩, fun t ht => by rw [e1 25 (by decide) (by decide)]; exact h2 t ht, fun t ht ho => by rw [e1 26 (by decide) (by decide), e1 27 (by decide) (by decide)]; exact h3 t ht ho, fun R x hx => by rw [e1 28 (by decide) (by decide)]; exact h4 R x hx, fun R x hx => by rw [e1 29 (by decide) (by decide)]; exact h5 R x (hx.trans ⟨A ++ [v], by rw [List.append_assoc]; rfl⟩)⟩
  · rw [e1 22 (by decide) (by decide)]; exact (h1 t ht).1
  · rw [zI_zsF, xMrk_23]
    by_cases q : t ∈ A ++ [v]
    · rw [if_pos q, decide_eq_false (fun z => ((eB t).mp z).2 q)]; rfl
    · rw [if_neg q]
      refine ((h1 t ht).2.1).trans ?_
      congr 1
      exact decide_eq_decide.mpr ⟨fun z => (eB t).mpr ⟨z, q⟩, fun z => ((eB t).mp z).1⟩
  · rw [zI_zsF, xMrk_24]
    show _ = zb (if t ∈ A ++ [v] then nb else bad t)
    by_cases q : t ∈ A ++ [v]
    · rw [if_pos q, if_pos q]
    · rw [if_neg q, if_neg q]
      exact (h1 t ht).2.2
