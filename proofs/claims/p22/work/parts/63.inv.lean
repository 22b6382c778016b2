/-! what a mover's number holds (the first rows begin as the kit's plain facts of numbers); the rows of steps while it explores -/
theorem fa_or (a b : Nat) : nI a ||| nI b = nI (a ||| b) := by
  apply Int32.toBitVec_inj.1
  show BitVec.ofNat 32 a ||| BitVec.ofNat 32 b = BitVec.ofNat 32 (a ||| b)
  apply BitVec.eq_of_getLsbD_eq
  intro i hi
  simp [hi]
theorem fa_or_sum {a k : Nat} (b : Nat) (h : a < 2 ^ k) : nI (2 ^ k * b) ||| nI a = nI (2 ^ k * b + a) := by rw [fa_or, Nat.two_pow_add_eq_or_of_lt h]
def xMv (P : Nat) (mov : Int32) : Prop := ∃ Y, mov = nI (512 * Y) ∧ 512 * Y < 2 ^ 30 ∧ Y % 8 < P
theorem xPart_n0 {Y g : Nat} (h : 512 * Y < 2 ^ 30) (hg : g < 512) : xPart (nI (512 * Y + g)) 0 = nI g := by
  unfold xPart
  rw [if_pos rfl, pk_andN (n := 512 * Y + g) (m := 511) (by omega) 9 (by decide)]
  show nI ((512 * Y + g) % 512) = nI g
  congr 1
  omega
theorem xPart_n1 {Y g : Nat} (h : 512 * Y < 2 ^ 30) (hg : g < 512) : xPart (nI (512 * Y + g)) 1 = nI (Y % 8) := by
  unfold xPart xSr
  rw [if_neg (by decide), if_pos rfl, pk_ushrN (n := 512 * Y + g) (by omega) 9 9 (by decide), pk_andN (n := (512 * Y + g) / 2 ^ 9) (m := 7) (by omega) 3 (by decide)]
  show nI ((512 * Y + g) / 512 % 8) = nI (Y % 8)
  congr 1
  omega
theorem xMv_0 {P : Nat} {mov : Int32} {g : Nat} (h : xMv P mov) (hg : g < 512) : xPart (mov ||| nI g) 0 = nI g := by
  obtain ⟨Y, rfl, h1, h2⟩ := h
  rw [show nI (512 * Y) ||| nI g = nI (512 * Y + g) from fa_or_sum (k := 9) Y hg]
  exact xPart_n0 h1 hg
theorem xMv_1 {P : Nat} {mov : Int32} {g : Nat} (h : xMv P mov) (hg : g < 512) : ∃ p, p < P ∧ xPart (mov ||| nI g) 1 = nI p := by
  obtain ⟨Y, rfl, h1, h2⟩ := h
  rw [show nI (512 * Y) ||| nI g = nI (512 * Y + g) from fa_or_sum (k := 9) Y hg]
  exact ⟨Y % 8, h2, xPart_n1 h1 hg⟩
def xEv (P : Nat) : Int32 := (1 <<< (nI P &&& 31)) - 1
theorem i32_tk {x b y e : Int32} (h : (x ||| (b ||| y)) &&& e = 0) (hb : b &&& e = b) : b = 0 := by
  apply Int32.toBitVec_inj.mp
  have h2 := congrArg Int32.toBitVec h
  have h4 := congrArg Int32.toBitVec hb
  simp only [Int32.toBitVec_and, Int32.toBitVec_or] at h2 h4
  refine BitVec.eq_of_getLsbD_eq (fun i hi => ?_)
  have h3 := congrArg (fun b : BitVec 32 => b.getLsbD i) h2
  have h5 := congrArg (fun b : BitVec 32 => b.getLsbD i) h4
  simp only [BitVec.getLsbD_and, BitVec.getLsbD_or, show (0 : Int32).toBitVec = 0#32 from rfl, BitVec.getLsbD_zero] at h3 h5 ⊢
  revert h3 h5
  cases x.toBitVec.getLsbD i <;> cases b.toBitVec.getLsbD i <;> cases y.toBitVec.getLsbD i <;> cases e.toBitVec.getLsbD i <;> decide
theorem xEv_bit : ∀ P, P < 4 → ∀ p, p < P → (1 <<< (nI p &&& 31) : Int32) &&& xEv P = 1 <<< (nI p &&& 31) ∧ (1 <<< (nI p &&& 31) : Int32) ≠ 0 := by decide +kernel
theorem xMv_tk {P : Nat} {mov x : Int32} (h : xMv P mov) (hP : P ≤ 3) : ¬ (x ||| xTk mov) &&& xEv P = 0 := by
  obtain ⟨Y, rfl, h1, h2⟩ := h
  intro q
  have e : xPart (nI (512 * Y)) 1 = nI (Y % 8) := xPart_n1 (g := 0) h1 (by decide)
  unfold xTk at q
  rw [e] at q
  obtain ⟨b1, b2⟩ := xEv_bit P (by omega) (Y % 8) h2
  exact b2 (i32_tk q b1)
theorem mv_1 : ∀ p, p < 3 → ∀ m, m < 6 → (nI p <<< ((9 : Int32) &&& 31)) ||| (nI m <<< ((12 : Int32) &&& 31)) = nI (512 * (p + 8 * m)) := by decide +kernel
theorem mv_2 : ∀ p, p < 3 → ∀ m, m < 6 → ∀ q, q < 3 → ∀ k, k < 6 → ((nI p <<< ((9 : Int32) &&& 31)) ||| (nI m <<< ((12 : Int32) &&& 31))) ||| (((nI q + 1) <<< ((16 : Int32) &&& 31)) ||| ((nI k + 1) <<< ((19 : Int32) &&& 31))) = nI (512 * (p + 8 * m + 128 * (q + 1) + 1024 * (k + 1))) := by decide +kernel
theorem xPm_mv {σ : zS} {P : Nat} {mc : Nat → Nat} {mid : Nat → Nat → Nat} (h : xPro σ P mc mid) {p m : Nat} (hp : p < P) (hm : m < mc p) : xMv P (xPm σ (mid p m)) := by
  obtain ⟨-, h2, h3, h4⟩ := h
  have h5 := (h3 p hp).2
  obtain ⟨-, -, e1, e2⟩ := h4 p m hp hm
  refine ⟨p + 8 * m, ?_, by omega, by omega⟩
  unfold xPm
  rw [e1, e2]
  exact mv_1 p (by omega) m (by omega)
theorem xPb_mv {σ : zS} {P : Nat} {mc : Nat → Nat} {mid : Nat → Nat → Nat} (h : xPro σ P mc mid) {p m q k : Nat} (hp : p < P) (hm : m < mc p) (hq : q < P) (hk : k < mc q) : xMv P (xPm σ (mid p m) ||| xPb σ (mid q k)) := by
  obtain ⟨-, h2, h3, h4⟩ := h
  have h5 := (h3 p hp).2
  have h6 := (h3 q hq).2
  obtain ⟨-, -, e1, e2⟩ := h4 p m hp hm
  obtain ⟨-, -, e3, e4⟩ := h4 q k hq hk
  refine ⟨p + 8 * m + 128 * (q + 1) + 1024 * (k + 1), ?_, by omega, by omega⟩
  unfold xPm xPb
  rw [e1, e2, e3, e4]
  exact mv_2 p (by omega) m (by omega) q (by omega) k (by omega)
/-- the steps of the states before m -/
def xEg (P : Nat) (σ : zS) (pk n m : Nat) (fs dep : Nat → Nat) (E : Nat → List Nat) : Prop :=
  (∀ t, t < m → zI σ 14 t = nI (fs t)) ∧
  (∀ t, t < m → ∀ (j g : Nat), (E t)[j]? = some g → g < n ∧ xPart (zI σ pk (fs t + j)) 0 = nI g ∧ (∃ p, p < P ∧ xPart (zI σ pk (fs t + j)) 1 = nI p) ∧ dep g ≤ dep t + 1) ∧
  ∀ t, t < m → (zI σ 13 t &&& xEv P = 0 → E t = []) ∧ (E t = [] → zI σ 13 t = 0)
/-- depths, parents and their steps -/
def xEd (σ : zS) (n m : Nat) (dep par pst : Nat → Nat) (E : Nat → List Nat) : Prop :=
  (∀ t, t < n → zI σ 10 t = nI (dep t) ∧ zI σ 11 t = nI (par t) ∧ dep t ≤ t ∧ par t < n) ∧ (dep 0 = 0 ∧ par 0 = 0) ∧
  (∀ t, 0 < t → t < n → par t < m ∧ par t < t ∧ dep t = dep (par t) + 1 ∧ zI σ 12 t = nI (pst t) ∧ (E (par t))[pst t]? = some t) ∧
  ∀ a b, a ≤ b → b < n → dep a ≤ dep b
/-- within the state s -/
def xEw (P : Nat) (σ : zS) (pk n T s : Nat) (fs dep par pst : Nat → Nat) (E : Nat → List Nat) : Prop :=
  xEg P σ pk n (s + 1) fs dep E ∧ xEd σ n (s + 1) dep par pst E ∧ (∀ t, t < s → fs (t + 1) = fs t + (E t).length) ∧ fs 0 = 0 ∧ T = fs s + (E s).length ∧ s < n ∧ ∀ t, t < n → dep t ≤ dep s + 1
/-- before the state s -/
def xEb (P : Nat) (σ : zS) (pk n T s : Nat) (fs dep par pst : Nat → Nat) (E : Nat → List Nat) : Prop :=
  xEg P σ pk n s fs dep E ∧ xEd σ n s dep par pst E ∧ (∀ t, t < s → fs (t + 1) = fs t + (E t).length) ∧ fs 0 = 0 ∧ T = fs s ∧ s ≤ n ∧ (s < n → ∀ t, t < n → dep t ≤ dep s + 1) ∧ (0 < s → zI σ 14 s = nI T)
theorem fs_mono {fs : Nat → Nat} {E : Nat → List Nat} {s : Nat} (h : ∀ t, t < s → fs (t + 1) = fs t + (E t).length) : ∀ (d t : Nat), t + d ≤ s → fs t ≤ fs (t + d)
  | 0, _, _ => Nat.le_refl _
  | d + 1, t, hd => by
    have h1 := fs_mono h d t (by omega)
    have h2 := h (t + d) (by omega)
    rw [← Nat.add_assoc, h2]
    omega
theorem fs_lt {fs : Nat → Nat} {E : Nat → List Nat} {s t j : Nat} (h : ∀ t, t < s → fs (t + 1) = fs t + (E t).length) (ht : t < s) (hj : j < (E t).length) : fs t + j < fs s := by
  have h1 := fs_mono h (s - (t + 1)) (t + 1) (by omega)
  rw [show t + 1 + (s - (t + 1)) = s by omega, h t ht] at h1
  omega
theorem xEg_stp {P : Nat} {σ σ' : zS} {pk pk' n n' T s g : Nat} {mov : Int32} {fs dep dep' : Nat → Nat} {E : Nat → List Nat} (hg : xEg P σ pk n (s + 1) fs dep E) (hf : ∀ t, t < s → fs (t + 1) = fs t + (E t).length) (hT : T = fs s + (E s).length) (hsn : s < n) (hnn : n ≤ n') (hgn : g < n') (hn4 : n' ≤ 400) (hm : xMv P mov) (hP : P ≤ 3)
    (i4 : ∀ i, i < T → zI σ' pk' i = zI σ pk i) (i5 : zI σ' pk' T = mov ||| nI g) (i6 : ∀ j, zI σ' 13 j = if j = s then zI σ 13 s ||| xTk mov else zI σ 13 j) (i7 : zI σ' 14 = zI σ 14) (hd : ∀ t, t < n → dep' t = dep t) (hdg : dep' g ≤ dep s + 1) : xEg P σ' pk' n' (s + 1) fs dep' (tU E s (E s ++ [g])) := by
  obtain ⟨g1, g2, g3⟩ := hg
  have old : ∀ t, t < s + 1 → ∀ (j x : Nat), (E t)[j]? = some x → x < n' ∧ xPart (zI σ' pk' (fs t + j)) 0 = nI x ∧ (∃ p, p < P ∧ xPart (zI σ' pk' (fs t + j)) 1 = nI p) ∧ dep' x ≤ dep' t + 1 := by
    intro t ht j x hx
    obtain ⟨a1, a2, a3, a4⟩ := g2 t ht j x hx
    have hj : j < (E t).length := (List.getElem?_eq_some_iff.mp hx).1
    have hl : fs t + j < T := by
      by_cases e : t = s
      · rw [e] at hj ⊢; omega
      · have := fs_lt hf (show t < s by omega) hj
        omega
    rw [i4 _ hl, hd x a1, hd t (by omega)]
    exact ⟨by omega, a2, a3, a4⟩
  refine ⟨fun t ht => by rw [i7]; exact g1 t ht, fun t ht j x hx => ?_, fun t ht => ?_⟩
  · by_cases e : t = s
    · rw [e] at hx ⊢
      rw [tU_s] at hx
      by_cases hj : j < (E s).length
      · rw [List.getElem?_append_left hj] at hx
        exact old s (by omega) j x hx
      · rw [List.getElem?_append_right (by omega)] at hx
        have h1 := (List.getElem?_eq_some_iff.mp hx).1
        have h1 : j - (E s).length < 1 := h1
        have h2 : j - (E s).length = 0 := by omega
        rw [h2] at hx
        have hx : g = x := Option.some.inj hx
        subst hx
        rw [show fs s + j = T by omega, i5, hd s hsn]
        exact ⟨hgn, xMv_0 hm (by omega), xMv_1 hm (by omega), hdg⟩
    · rw [tU_n e] at hx
      exact old t ht j x hx
  · by_cases e : t = s
    · rw [e, i6, if_pos rfl, tU_s]
      exact ⟨fun q => absurd q (xMv_tk hm hP), fun q => by
        have := congrArg List.length q
        rw [List.length_append] at this
        exact absurd this (by simp)⟩
    · rw [i6, if_neg e, tU_n e]
      exact g3 t ht
theorem xEd_old {σ σ' : zS} {n m s g : Nat} {dep par pst : Nat → Nat} {E : Nat → List Nat} (h : xEd σ n m dep par pst E) (i8 : ∀ a, a = 10 ∨ a = 11 ∨ a = 12 → ∀ i, i < n → zI σ' a i = zI σ a i) : xEd σ' n m dep par pst (tU E s (E s ++ [g])) := by
  obtain ⟨d1, d2, d3, d4⟩ := h
  refine ⟨fun t ht => ?_, d2, fun t h0 ht => ?_, d4⟩
  · rw [i8 10 (by omega) t ht, i8 11 (by omega) t ht]
    exact d1 t ht
  · obtain ⟨a1, a2, a3, a4, a5⟩ := d3 t h0 ht
    rw [i8 12 (by omega) t ht]
    refine ⟨a1, a2, a3, a4, ?_⟩
    by_cases e : par t = s
    · rw [e] at a5 ⊢
      rw [tU_s, List.getElem?_append_left (List.getElem?_eq_some_iff.mp a5).1]
      exact a5
    · rw [tU_n e]
      exact a5
theorem xEd_new {σ σ' : zS} {n s : Nat} {dep par pst : Nat → Nat} {E : Nat → List Nat} (h : xEd σ n (s + 1) dep par pst E) (hsn : s < n) (hb : ∀ t, t < n → dep t ≤ dep s + 1) (i8 : ∀ a, a = 10 ∨ a = 11 ∨ a = 12 → ∀ i, i < n → zI σ' a i = zI σ a i) (e10 : zI σ' 10 n = nI (dep s + 1)) (e11 : zI σ' 11 n = nI s) (e12 : zI σ' 12 n = nI (E s).length) : xEd σ' (n + 1) (s + 1) (tU dep n (dep s + 1)) (tU par n s) (tU pst n (E s).length) (tU E s (E s ++ [n])) := by
  obtain ⟨d1, ⟨d20, d21⟩, d3, d4⟩ := xEd_old (s := s) (g := n) h i8
  have hs := (h.1 s hsn).2.2.1
  refine ⟨fun t ht => ?_, ⟨?_, ?_⟩, fun t h0 ht => ?_, fun a b hab hbn => ?_⟩
  · by_cases e : t = n
    · rw [e, tU_s, tU_s]
      exact ⟨e10, e11, by omega, by omega⟩
    · obtain ⟨a1, a2, a3, a4⟩ := d1 t (by omega)
      rw [tU_n e, tU_n e]
      exact ⟨a1, a2, a3, by omega⟩
  · rw [tU_n (by omega)]; exact d20
  · rw [tU_n (by omega)]; exact d21
  · by_cases e : t = n
    · rw [e, tU_s, tU_s, tU_s, tU_s, tU_n (by omega)]
      refine ⟨by omega, hsn, rfl, e12, ?_⟩
      rw [List.getElem?_append_right (Nat.le_refl _), Nat.sub_self]
      rfl
    · obtain ⟨a1, a2, a3, a4, a5⟩ := d3 t h0 (by omega)
      have a6 : par t ≠ n := by omega
      rw [tU_n e, tU_n e, tU_n e, tU_n a6]
      exact ⟨a1, a2, a3, a4, a5⟩
  · by_cases e : b = n
    · by_cases e2 : a = n
      · rw [e, e2]; exact Nat.le_refl _
      · rw [e, tU_s, tU_n e2]
        exact hb a (by omega)
    · rw [tU_n e, tU_n (by omega)]
      exact d4 a b hab (by omega)
def xEW (P : Nat) (σ : zS) (pk n T s : Nat) : Prop := ∃ fs dep par pst E, xEw P σ pk n T s fs dep par pst E
def xEB (P : Nat) (σ : zS) (pk n T s : Nat) : Prop := ∃ fs dep par pst E, xEb P σ pk n T s fs dep par pst E
theorem xEW_stp {P : Nat} {σ : zS} {pk n T s : Nat} {po : Nat → Nat} {k mov : Int32} (h : xI σ pk n T po) (hw : xEW P σ pk n T s) (hT : T ≤ 512000) (hf : n < 400 ∨ k ∈ xKeys σ n) (hm : xMv P mov) (hP : P ≤ 3) :
    ∃ pk' po', xI (xStp σ s k mov) pk' (kAdd (xKeys σ n) k).length (T + 1) po' ∧ xEW P (xStp σ s k mov) pk' (kAdd (xKeys σ n) k).length (T + 1) s ∧ zF (xStp σ s k mov) 3 10 8 = zF σ 3 10 8 := by
  obtain ⟨fs, dep, par, pst, E, hg, hd, f1, f0, hT2, hsn, hb⟩ := hw
  obtain ⟨pk', po', g, n', en, i1, i2, i3, i4, i5, i6, i7, i8, i9⟩ := xStp_eff (s := s) (mov := mov) h hT hf
  rw [← en]
  have hn4 := i1.2.2.2.2.1
  have hTs : T + 1 = fs s + (tU E s (E s ++ [g]) s).length := by
    rw [tU_s, List.length_append]
    show T + 1 = fs s + ((E s).length + 1)
    omega
  have hfs : ∀ t, t < s → fs (t + 1) = fs t + (tU E s (E s ++ [g]) t).length := fun t ht => by
    rw [tU_n (by omega)]; exact f1 t ht
  refine ⟨pk', po', i1, ?_, i2⟩
  rcases i9 with e | ⟨e1, e2, e3, e4, e5⟩
  · subst e
    exact ⟨fs, dep, par, pst, tU E s (E s ++ [g]), xEg_stp hg f1 hT2 hsn (Nat.le_refl _) i3 hn4 hm hP i4 i5 i6 i7 (fun _ _ => rfl) (hb g i3), xEd_old hd i8, hfs, f0, hTs, hsn, hb⟩
  · subst e1
    subst e2
    have g14 := hg.1 s (by omega)
    have ds := (hd.1 s hsn).1
    refine ⟨fs, tU dep g (dep s + 1), tU par g s, tU pst g (E s).length, tU E s (E s ++ [g]), xEg_stp hg f1 hT2 hsn (Nat.le_succ _) i3 hn4 hm hP i4 i5 i6 i7 (fun t ht => tU_n (by omega)) (by rw [tU_s]; exact Nat.le_refl _), xEd_new hd hsn hb i8 ?_ e4 ?_, hfs, f0, hTs, by omega, fun t ht => ?_⟩
    · rw [e3, ds, nI_1]
    · rw [e5, h.2.2.2.2.2.1, g14, pk_sub (by omega)]
      congr 1
      omega
    · rw [tU_n (show s ≠ g by omega)]
      by_cases e : t = g
      · rw [e, tU_s]; exact Nat.le_refl _
      · rw [tU_n e]; exact hb t (by omega)
