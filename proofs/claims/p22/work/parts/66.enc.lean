/-! rows of the hand as keys of the class -/
def kE (a b c d e : Nat) : Int32 := nI (a + 8 * b + 64 * c + 32768 * d + 524288 * e)
theorem kE_l0 : ∀ a, a < 4 → ∀ b, b < 4 → ∀ c, c < 4 → ∀ d, d < 4 → ∀ e, e < 4 → xLoc (kE a b c d e) 0 = nI a := by decide +kernel
theorem kE_l1 : ∀ a, a < 4 → ∀ b, b < 4 → ∀ c, c < 4 → ∀ d, d < 4 → ∀ e, e < 4 → xLoc (kE a b c d e) 1 = nI b := by decide +kernel
theorem kE_l2 : ∀ a, a < 4 → ∀ b, b < 4 → ∀ c, c < 4 → ∀ d, d < 4 → ∀ e, e < 4 → xLoc (kE a b c d e) 2 = nI c := by decide +kernel
theorem kE_v0 : ∀ a, a < 4 → ∀ b, b < 4 → ∀ c, c < 4 → ∀ d, d < 4 → ∀ e, e < 4 → xVal (kE a b c d e) 0 = nI d := by decide +kernel
theorem kE_v1 : ∀ a, a < 4 → ∀ b, b < 4 → ∀ c, c < 4 → ∀ d, d < 4 → ∀ e, e < 4 → xVal (kE a b c d e) 1 = nI e := by decide +kernel
theorem kE_w0 : ∀ a, a < 4 → ∀ b, b < 4 → ∀ c, c < 4 → ∀ d, d < 4 → ∀ e, e < 4 → ∀ x, x < 4 → xWLoc (kE a b c d e) 0 (nI x) = kE x b c d e := by decide +kernel
theorem kE_w1 : ∀ a, a < 4 → ∀ b, b < 4 → ∀ c, c < 4 → ∀ d, d < 4 → ∀ e, e < 4 → ∀ x, x < 4 → xWLoc (kE a b c d e) 1 (nI x) = kE a x c d e := by decide +kernel
theorem kE_w2 : ∀ a, a < 4 → ∀ b, b < 4 → ∀ c, c < 4 → ∀ d, d < 4 → ∀ e, e < 4 → ∀ x, x < 4 → xWLoc (kE a b c d e) 2 (nI x) = kE a b x d e := by decide +kernel
theorem kE_w3 : ∀ a, a < 4 → ∀ b, b < 4 → ∀ c, c < 4 → ∀ d, d < 4 → ∀ e, e < 4 → ∀ x, x < 4 → xWVal (kE a b c d e) 0 (nI x) = kE a b c x e := by decide +kernel
theorem kE_w4 : ∀ a, a < 4 → ∀ b, b < 4 → ∀ c, c < 4 → ∀ d, d < 4 → ∀ e, e < 4 → ∀ x, x < 4 → xWVal (kE a b c d e) 1 (nI x) = kE a b c d x := by decide +kernel
def kEf (c : Nat → Nat) : Int32 := kE (c 0) (c 1) (c 2) (c 3) (c 4)
theorem kEf_loc {c : Nat → Nat} (h : ∀ i, c i < 4) {p : Nat} (hp : p < 3) : xLoc (kEf c) (nI p) = nI (c p) := by
  rcases (show p = 0 ∨ p = 1 ∨ p = 2 by omega) with rfl | rfl | rfl
  · exact kE_l0 (c 0) (h 0) (c 1) (h 1) (c 2) (h 2) (c 3) (h 3) (c 4) (h 4)
  · exact kE_l1 (c 0) (h 0) (c 1) (h 1) (c 2) (h 2) (c 3) (h 3) (c 4) (h 4)
  · exact kE_l2 (c 0) (h 0) (c 1) (h 1) (c 2) (h 2) (c 3) (h 3) (c 4) (h 4)
theorem kEf_val {c : Nat → Nat} (h : ∀ i, c i < 4) {v : Nat} (hv : v < 2) : xVal (kEf c) (nI v) = nI (c (3 + v)) := by
  rcases (show v = 0 ∨ v = 1 by omega) with rfl | rfl
  · exact kE_v0 (c 0) (h 0) (c 1) (h 1) (c 2) (h 2) (c 3) (h 3) (c 4) (h 4)
  · exact kE_v1 (c 0) (h 0) (c 1) (h 1) (c 2) (h 2) (c 3) (h 3) (c 4) (h 4)
theorem kEf_wloc {c : Nat → Nat} (h : ∀ i, c i < 4) {p x : Nat} (hp : p < 3) (hx : x < 4) : xWLoc (kEf c) (nI p) (nI x) = kEf (tU c p x) := by
  rcases (show p = 0 ∨ p = 1 ∨ p = 2 by omega) with rfl | rfl | rfl
  · exact kE_w0 (c 0) (h 0) (c 1) (h 1) (c 2) (h 2) (c 3) (h 3) (c 4) (h 4) x hx
  · exact kE_w1 (c 0) (h 0) (c 1) (h 1) (c 2) (h 2) (c 3) (h 3) (c 4) (h 4) x hx
  · exact kE_w2 (c 0) (h 0) (c 1) (h 1) (c 2) (h 2) (c 3) (h 3) (c 4) (h 4) x hx
theorem kEf_wval {c : Nat → Nat} (h : ∀ i, c i < 4) {v x : Nat} (hv : v < 2) (hx : x < 4) : xWVal (kEf c) (nI v) (nI x) = kEf (tU c (3 + v) x) := by
  rcases (show v = 0 ∨ v = 1 by omega) with rfl | rfl
  · exact kE_w3 (c 0) (h 0) (c 1) (h 1) (c 2) (h 2) (c 3) (h 3) (c 4) (h 4) x hx
  · exact kE_w4 (c 0) (h 0) (c 1) (h 1) (c 2) (h 2) (c 3) (h 3) (c 4) (h 4) x hx
theorem kEf_pos {c : Nat → Nat} (h : ∀ i, c i < 4) : 0 ≤ kEf c := by
  have h0 := h 0
  have h1 := h 1
  have h2 := h 2
  have h3 := h 3
  have h4 := h 4
  exact nI_pos' (by omega)
theorem kEf_inj {c c' : Nat → Nat} (h : ∀ i, c i < 4) (h' : ∀ i, c' i < 4) (e : kEf c = kEf c') : ∀ i, i < 5 → c i = c' i := by
  intro i hi
  by_cases hp : i < 3
  · have e1 := kEf_loc h hp
    rw [e, kEf_loc h' hp] at e1
    exact ((nI_eq (by have := h' i; omega) (by have := h i; omega)).mp e1).symm
  · have e1 := kEf_val h (show i - 3 < 2 by omega)
    rw [e, kEf_val h' (show i - 3 < 2 by omega), show 3 + (i - 3) = i by omega] at e1
    exact ((nI_eq (by have := h' i; omega) (by have := h i; omega)).mp e1).symm
/-- a row as it should be: L locations, V values, each below 4 -/
def rOk (L V : Nat) (st : List Int32) : Prop := st.length = L + V ∧ ∀ i, i < L + V → ∃ a, a < 4 ∧ st[i]? = some (nI a)
def eN (st : List Int32) (i : Nat) : Nat := ((st[i]?).getD 0).toNatClampNeg
def eC (L V : Nat) (st : List Int32) : Nat → Nat := fun i => if i < 3 then (if i < L then eN st i else 0) else (if i - 3 < V then eN st (L + (i - 3)) else 0)
def enc (L V : Nat) (st : List Int32) : Int32 := kEf (eC L V st)
theorem eN_of {st : List Int32} {i a : Nat} (h : st[i]? = some (nI a)) (ha : a < 4) : eN st i = a := by
  unfold eN
  rw [h]
  exact nI_clamp (by omega)
theorem rOk.n {L V : Nat} {st : List Int32} (h : rOk L V st) {i : Nat} (hi : i < L + V) : st[i]? = some (nI (eN st i)) ∧ eN st i < 4 := by
  obtain ⟨a, h1, h2⟩ := h.2 i hi
  rw [eN_of h2 h1]
  exact ⟨h2, h1⟩
theorem eC_lt {L V : Nat} {st : List Int32} (h : rOk L V st) (i : Nat) : eC L V st i < 4 := by
  unfold eC
  by_cases c1 : i < 3
  · rw [if_pos c1]
    by_cases c2 : i < L
    · rw [if_pos c2]; exact (h.n (by omega)).2
    · rw [if_neg c2]; decide
  · rw [if_neg c1]
    by_cases c2 : i - 3 < V
    · rw [if_pos c2]; exact (h.n (by omega)).2
    · rw [if_neg c2]; decide
theorem eC_loc {L V i : Nat} {st : List Int32} (hL : L ≤ 3) (hi : i < L) : eC L V st i = eN st i := by
  unfold eC
  rw [if_pos (by omega), if_pos hi]
theorem eC_val {L V v : Nat} {st : List Int32} (hv : v < V) : eC L V st (3 + v) = eN st (L + v) := by
  unfold eC
  rw [if_neg (by omega), show 3 + v - 3 = v by omega, if_pos hv]
theorem enc_inj {L V : Nat} (hL : L ≤ 3) (hV : V ≤ 2) {r t : List Int32} (hr : rOk L V r) (ht : rOk L V t) (e : enc L V r = enc L V t) : r = t := by
  have h := kEf_inj (eC_lt hr) (eC_lt ht) e
  have hn : ∀ i, i < L + V → eN r i = eN t i := by
    intro i hi
    by_cases c : i < L
    · have := h i (by omega)
      rw [eC_loc hL c, eC_loc hL c] at this
      exact this
    · have := h (3 + (i - L)) (by omega)
      rw [eC_val (show i - L < V by omega), eC_val (show i - L < V by omega), show L + (i - L) = i by omega] at this
      exact this
  refine List.ext_getElem? (fun i => ?_)
  by_cases c : i < L + V
  · rw [(hr.n c).1, (ht.n c).1, hn i c]
  · rw [List.getElem?_eq_none (by rw [hr.1]; omega), List.getElem?_eq_none (by rw [ht.1]; omega)]
theorem rOk_set {L V i a : Nat} {st : List Int32} (h : rOk L V st) (ha : a < 4) : rOk L V (st.set i (nI a)) := by
  refine ⟨by rw [List.length_set]; exact h.1, fun j hj => ?_⟩
  rw [List.getElem?_set]
  by_cases e : i = j
  · rw [if_pos e, if_pos (by rw [h.1, e]; exact hj)]
    exact ⟨a, ha, rfl⟩
  · rw [if_neg e]
    exact h.2 j hj
theorem eN_set {st : List Int32} {i j a : Nat} (hi : i < st.length) (ha : a < 4) : eN (st.set i (nI a)) j = if j = i then a else eN st j := by
  unfold eN
  rw [List.getElem?_set]
  by_cases e : j = i
  · rw [if_pos e.symm, if_pos hi, if_pos e]
    exact nI_clamp (by omega)
  · rw [if_neg (fun q => e q.symm), if_neg e]
theorem eC_sloc {L V p a : Nat} {st : List Int32} (h : rOk L V st) (hL : L ≤ 3) (hp : p < L) (ha : a < 4) : eC L V (st.set p (nI a)) = tU (eC L V st) p a := by
  have hl := h.1
  funext i
  unfold eC
  rw [tU_if]
  by_cases c1 : i < 3
  · rw [if_pos c1, if_pos c1]
    by_cases c2 : i < L
    · rw [if_pos c2, if_pos c2, eN_set (by omega) ha]
    · rw [if_neg c2, if_neg c2, if_neg (by omega)]
  · rw [if_neg c1, if_neg c1, if_neg (show ¬ i = p by omega)]
    by_cases c2 : i - 3 < V
    · rw [if_pos c2, if_pos c2, eN_set (by omega) ha, if_neg (by omega)]
    · rw [if_neg c2, if_neg c2]
theorem eC_sval {L V v a : Nat} {st : List Int32} (h : rOk L V st) (hL : L ≤ 3) (hv : v < V) (ha : a < 4) : eC L V (st.set (L + v) (nI a)) = tU (eC L V st) (3 + v) a := by
  have hl := h.1
  funext i
  unfold eC
  rw [tU_if]
  by_cases c1 : i < 3
  · rw [if_pos c1, if_pos c1, if_neg (show ¬ i = 3 + v by omega)]
    by_cases c2 : i < L
    · rw [if_pos c2, if_pos c2, eN_set (by omega) ha, if_neg (by omega)]
    · rw [if_neg c2, if_neg c2]
  · rw [if_neg c1, if_neg c1]
    by_cases c2 : i - 3 < V
    · rw [if_pos c2, if_pos c2, eN_set (by omega) ha]
      by_cases c3 : i = 3 + v
      · rw [if_pos c3, if_pos (by omega)]
      · rw [if_neg c3, if_neg (by omega)]
    · rw [if_neg c2, if_neg c2, if_neg (by omega)]
theorem enc_loc {L V p : Nat} {st : List Int32} (h : rOk L V st) (hL : L ≤ 3) (hp : p < L) : xLoc (enc L V st) (nI p) = nI (eN st p) := by
  unfold enc
  rw [kEf_loc (eC_lt h) (by omega), eC_loc hL hp]
theorem enc_val {L V v : Nat} {st : List Int32} (h : rOk L V st) (hV : V ≤ 2) (hv : v < V) : xVal (enc L V st) (nI v) = nI (eN st (L + v)) := by
  unfold enc
  rw [kEf_val (eC_lt h) (by omega), eC_val hv]
theorem enc_pos {L V : Nat} {st : List Int32} (h : rOk L V st) : 0 ≤ enc L V st := kEf_pos (eC_lt h)
theorem enc_wloc {L V p a : Nat} {st : List Int32} (h : rOk L V st) (hL : L ≤ 3) (hp : p < L) (ha : a < 4) : xWLoc (enc L V st) (nI p) (nI a) = enc L V (st.set p (nI a)) := by
  unfold enc
  rw [kEf_wloc (eC_lt h) (by omega) ha, eC_sloc h hL hp ha]
theorem enc_wval {L V v a : Nat} {st : List Int32} (h : rOk L V st) (hL : L ≤ 3) (hV : V ≤ 2) (hv : v < V) (ha : a < 4) : xWVal (enc L V st) (nI v) (nI a) = enc L V (st.set (L + v) (nI a)) := by
  unfold enc
  rw [kEf_wval (eC_lt h) (by omega) ha, eC_sval h hL hv ha]
