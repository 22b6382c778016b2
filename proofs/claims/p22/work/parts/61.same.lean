/-! both numberings agree, where a state's steps do -/
theorem kAll_map (ks : List Int32) (l : List (Int32 × Int32)) : kAll ks l = (l.map (fun p => p.1)).foldl kAdd ks := by
  unfold kAll
  rw [List.foldl_map]
theorem hFold_all {V : List Int32 → Prop} : ∀ (l rows : List (List Int32)), (∀ r, r ∈ rows → V r) → (∀ t, t ∈ l → V t) → ∀ r, r ∈ hFold rows l → V r
  | [], _, h, _ => h
  | t :: l, _, h, h2 => hFold_all l _ (hAdd_all h (h2 t List.mem_cons_self)) (fun x hx => h2 x (List.mem_cons_of_mem _ hx))
theorem hBf_map {L : Nat} {G : List Int32} {mvs : List (List hMv)} {enc : List Int32 → Int32} {V : List Int32 → Prop} {σ0 : zS} {P : Nat} {mc : Nat → Nat} {mid : Nat → Nat → Nat} (hinj : ∀ r t, V r → V t → enc r = enc t → r = t)
    (hsim : ∀ st, V st → (∀ t, t ∈ tAl L G mvs st L 0 → V t) ∧ (tAl L G mvs st L 0).map enc = (lOf σ0 P mc mid (enc st)).map (fun p => p.1)) : ∀ (d s : Nat) (rows : List (List Int32)), (∀ r, r ∈ rows → V r) → (hBf L G mvs d s rows).map enc = kBf σ0 P mc mid d s (rows.map enc)
  | 0, _, _, _ => rfl
  | d + 1, s, rows, hV => by
    show (match rows[s]? with
      | some st => hBf L G mvs d (s + 1) (hAl L G mvs st L 0 rows)
      | none => rows).map enc = (match (rows.map enc)[s]? with
      | some k => kBf σ0 P mc mid d (s + 1) (kAll (rows.map enc) (lOf σ0 P mc mid k))
      | none => rows.map enc)
    rw [List.getElem?_map]
    cases e : rows[s]? with
    | none => rfl
    | some st =>
      show (hBf L G mvs d (s + 1) (hAl L G mvs st L 0 rows)).map enc = kBf σ0 P mc mid d (s + 1) (kAll (rows.map enc) (lOf σ0 P mc mid (enc st)))
      obtain ⟨h1, h2⟩ := hsim st (hV st (List.mem_of_getElem? e))
      rw [hAl_fold, kAll_map, ← h2, ← hFold_map hinj (tAl L G mvs st L 0) rows hV h1]
      exact hBf_map hinj hsim d (s + 1) _ (hFold_all _ _ hV h1)
