/-! what numbering keeps, the whole exploring keeps -/
theorem hAddO_ind {Pr : List (List Int32) → Prop} (hP : ∀ rows st, Pr rows → Pr (hAdd rows st)) {rows : List (List Int32)} {o : Option (List Int32)} (h : Pr rows) : Pr (hAddO rows o) := by
  cases o with
  | none => exact h
  | some t => exact hP _ _ h
theorem hKs_ind {L : Nat} {G : List Int32} {Pr : List (List Int32) → Prop} (hP : ∀ rows st, Pr rows → Pr (hAdd rows st)) {st beh : List Int32} {one : hMv} {b : Nat} : ∀ (l : List hMv) (rows : List (List Int32)), Pr rows → Pr (hKs L G st beh one b l rows)
  | [], _, h => h
  | _ :: l, _, h => hKs_ind hP l _ (hAddO_ind hP h)
theorem hBs_ind {L : Nat} {G : List Int32} {mvs : List (List hMv)} {Pr : List (List Int32) → Prop} (hP : ∀ rows st, Pr rows → Pr (hAdd rows st)) {st beh : List Int32} {one : hMv} : ∀ (d b : Nat) (rows : List (List Int32)), Pr rows → Pr (hBs L G mvs st beh one d b rows)
  | 0, _, _, h => h
  | d + 1, b, _, h => hBs_ind hP d (b + 1) _ (hKs_ind hP _ _ h)
theorem hCh_ind {L : Nat} {G : List Int32} {mvs : List (List hMv)} {Pr : List (List Int32) → Prop} (hP : ∀ rows st, Pr rows → Pr (hAdd rows st)) {st : List Int32} {a : Nat} {one : hMv} {rows : List (List Int32)} (h : Pr rows) : Pr (hCh L G mvs st a one rows) := by
  unfold hCh
  by_cases h1 : hOpn L G st a one = true
  · rw [if_pos h1]
    cases hDn L G st a one with
    | none => exact h
    | some t =>
      show Pr (if one.h = 0 then hAdd rows t else _)
      by_cases h2 : one.h = 0
      · rw [if_pos h2]; exact hP _ _ h
      · rw [if_neg h2]; exact hBs_ind hP _ _ _ h
  · rw [if_neg h1]
    exact h
theorem hMl_ind {L : Nat} {G : List Int32} {mvs : List (List hMv)} {Pr : List (List Int32) → Prop} (hP : ∀ rows st, Pr rows → Pr (hAdd rows st)) {st : List Int32} {a : Nat} : ∀ (l : List hMv) (rows : List (List Int32)), Pr rows → Pr (hMl L G mvs st a l rows)
  | [], _, h => h
  | _ :: l, _, h => hMl_ind hP l _ (hCh_ind hP h)
theorem hAl_ind {L : Nat} {G : List Int32} {mvs : List (List hMv)} {Pr : List (List Int32) → Prop} (hP : ∀ rows st, Pr rows → Pr (hAdd rows st)) {st : List Int32} : ∀ (d a : Nat) (rows : List (List Int32)), Pr rows → Pr (hAl L G mvs st d a rows)
  | 0, _, _, h => h
  | d + 1, a, _, h => hAl_ind hP d (a + 1) _ (hMl_ind hP _ _ h)
theorem hBf_ind {L : Nat} {G : List Int32} {mvs : List (List hMv)} {Pr : List (List Int32) → Prop} (hP : ∀ rows st, Pr rows → Pr (hAdd rows st)) : ∀ (d s : Nat) (rows : List (List Int32)), Pr rows → Pr (hBf L G mvs d s rows)
  | 0, _, _, h => h
  | d + 1, s, rows, h => by
    show Pr (match rows[s]? with
      | some st => hBf L G mvs d (s + 1) (hAl L G mvs st L 0 rows)
      | none => rows)
    cases rows[s]? with
    | none => exact h
    | some st => exact hBf_ind hP d (s + 1) _ (hAl_ind hP L 0 _ h)
theorem hAdd_nodup {rows : List (List Int32)} {st : List Int32} (h : rows.Nodup) : (hAdd rows st).Nodup := by
  unfold hAdd
  by_cases q : st ∈ rows
  · rw [if_pos q]; exact h
  · rw [if_neg q]
    refine List.nodup_append.mpr ⟨h, List.nodup_cons.mpr ⟨List.not_mem_nil, List.nodup_nil⟩, fun a ha b hb => ?_⟩
    rw [List.mem_singleton.mp hb]
    exact fun e => q (e ▸ ha)
theorem hBf_nodup {L : Nat} {G : List Int32} {mvs : List (List hMv)} {d s : Nat} {rows : List (List Int32)} (h : rows.Nodup) : (hBf L G mvs d s rows).Nodup := hBf_ind (Pr := fun r => r.Nodup) (fun _ _ q => hAdd_nodup q) d s rows h
theorem hAdd_mem {rows : List (List Int32)} {st : List Int32} : st ∈ hAdd rows st := by
  unfold hAdd
  by_cases q : st ∈ rows
  · rw [if_pos q]; exact q
  · rw [if_neg q]; exact List.mem_append_right _ List.mem_cons_self
theorem hAdd_sub {rows : List (List Int32)} {st r : List Int32} (h : r ∈ rows) : r ∈ hAdd rows st := by
  unfold hAdd
  by_cases q : st ∈ rows
  · rw [if_pos q]; exact h
  · rw [if_neg q]; exact List.mem_append_left _ h
/-- a key numbered -/
def kAdd (ks : List Int32) (k : Int32) : List Int32 := if k ∈ ks then ks else ks ++ [k]
theorem hAdd_map {enc : List Int32 → Int32} {rows : List (List Int32)} {st : List Int32} (hinj : ∀ r, r ∈ rows → enc r = enc st → r = st) : (hAdd rows st).map enc = kAdd (rows.map enc) (enc st) := by
  unfold hAdd kAdd
  by_cases q : st ∈ rows
  · rw [if_pos q, if_pos (List.mem_map_of_mem q)]
  · rw [if_neg q, if_neg (fun z => ?_), List.map_append]
    · rfl
    · obtain ⟨r, h1, h2⟩ := List.mem_map.mp z
      exact q (hinj r h1 h2 ▸ h1)
