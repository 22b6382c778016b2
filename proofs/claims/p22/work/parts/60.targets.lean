/-! the hand's targets of a state as a list -/
def hFold (rows : List (List Int32)) (l : List (List Int32)) : List (List Int32) := l.foldl hAdd rows
theorem hFold_app (rows a b : List (List Int32)) : hFold rows (a ++ b) = hFold (hFold rows a) b := List.foldl_append
def tKs (L : Nat) (G st beh : List Int32) (one : hMv) (b : Nat) : List hMv → List (List Int32)
  | [] => []
  | o :: l => (match hPr L G st beh one b o with
    | some t => [t]
    | none => []) ++ tKs L G st beh one b l
theorem hKs_fold {L b : Nat} {G st beh : List Int32} {one : hMv} : ∀ (l : List hMv) (rows : List (List Int32)), hKs L G st beh one b l rows = hFold rows (tKs L G st beh one b l)
  | [], _ => rfl
  | o :: l, rows => by
    show hKs L G st beh one b l (hAddO rows (hPr L G st beh one b o)) = hFold rows ((match hPr L G st beh one b o with
      | some t => [t]
      | none => []) ++ tKs L G st beh one b l)
    rw [hKs_fold l, hFold_app]
    cases hPr L G st beh one b o <;> rfl
def tBs (L : Nat) (G : List Int32) (mvs : List (List hMv)) (st beh : List Int32) (one : hMv) : Nat → Nat → List (List Int32)
  | 0, _ => []
  | d + 1, b => tKs L G st beh one b ((mvs[b]?).getD []) ++ tBs L G mvs st beh one d (b + 1)
theorem hBs_fold {L : Nat} {G st beh : List Int32} {mvs : List (List hMv)} {one : hMv} : ∀ (d b : Nat) (rows : List (List Int32)), hBs L G mvs st beh one d b rows = hFold rows (tBs L G mvs st beh one d b)
  | 0, _, _ => rfl
  | d + 1, b, rows => by rw [hBs, tBs, hFold_app, hBs_fold d (b + 1), hKs_fold]
def tCh (L : Nat) (G : List Int32) (mvs : List (List hMv)) (st : List Int32) (a : Nat) (one : hMv) : List (List Int32) :=
  if hOpn L G st a one = true then (match hDn L G st a one with
    | some t => if one.h = 0 then [t] else tBs L G mvs st t one (L - (a + 1)) (a + 1)
    | none => []) else []
theorem hCh_fold {L a : Nat} {G st : List Int32} {mvs : List (List hMv)} {one : hMv} {rows : List (List Int32)} : hCh L G mvs st a one rows = hFold rows (tCh L G mvs st a one) := by
  unfold hCh tCh
  by_cases h1 : hOpn L G st a one = true
  · rw [if_pos h1, if_pos h1]
    cases hDn L G st a one with
    | none => rfl
    | some t =>
      show (if one.h = 0 then hAdd rows t else _) = hFold rows (if one.h = 0 then [t] else _)
      by_cases h2 : one.h = 0
      · rw [if_pos h2, if_pos h2]; rfl
      · rw [if_neg h2, if_neg h2, hBs_fold]
  · rw [if_neg h1, if_neg h1]
    rfl
def tMl (L : Nat) (G : List Int32) (mvs : List (List hMv)) (st : List Int32) (a : Nat) : List hMv → List (List Int32)
  | [] => []
  | o :: l => tCh L G mvs st a o ++ tMl L G mvs st a l
theorem hMl_fold {L a : Nat} {G st : List Int32} {mvs : List (List hMv)} : ∀ (l : List hMv) (rows : List (List Int32)), hMl L G mvs st a l rows = hFold rows (tMl L G mvs st a l)
  | [], _ => rfl
  | o :: l, rows => by rw [hMl, tMl, hFold_app, hMl_fold l, hCh_fold]
def tAl (L : Nat) (G : List Int32) (mvs : List (List hMv)) (st : List Int32) : Nat → Nat → List (List Int32)
  | 0, _ => []
  | d + 1, a => tMl L G mvs st a ((mvs[a]?).getD []) ++ tAl L G mvs st d (a + 1)
theorem hAl_fold {L : Nat} {G st : List Int32} {mvs : List (List hMv)} : ∀ (d a : Nat) (rows : List (List Int32)), hAl L G mvs st d a rows = hFold rows (tAl L G mvs st d a)
  | 0, _, _ => rfl
  | d + 1, a, rows => by rw [hAl, tAl, hFold_app, hAl_fold d (a + 1), hMl_fold]
/-- rows told by keys: numbering agrees, where no two rows have one key -/
theorem hFold_map {enc : List Int32 → Int32} {V : List Int32 → Prop} (hinj : ∀ r t, V r → V t → enc r = enc t → r = t) : ∀ (l rows : List (List Int32)), (∀ r, r ∈ rows → V r) → (∀ t, t ∈ l → V t) → (hFold rows l).map enc = (l.map enc).foldl kAdd (rows.map enc)
  | [], _, _, _ => rfl
  | t :: l, rows, h1, h2 => by
    have h3 := h2 t List.mem_cons_self
    have h4 : ∀ r, r ∈ hAdd rows t → V r := hAdd_all h1 h3
    have e := hAdd_map (enc := enc) (rows := rows) (st := t) (fun r hr q => hinj r t (h1 r hr) h3 q)
    show (hFold (hAdd rows t) l).map enc = (l.map enc).foldl kAdd (kAdd (rows.map enc) (enc t))
    rw [← e]
    exact hFold_map hinj l (hAdd rows t) h4 (fun x hx => h2 x (List.mem_cons_of_mem _ hx))
