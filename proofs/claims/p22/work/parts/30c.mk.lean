/-! a heap told by lists: what is new stands first -/
def zkf : List (Nat × Nat) → Nat → Nat
  | [], _ => 999
  | q :: r, a => if q.1 = a then q.2 else zkf r a
def zlf : List (Nat × Nat) → Nat → Nat
  | [], _ => 0
  | q :: r, a => if q.1 = a then q.2 else zlf r a
def zff : List (Nat × Nat × Nat × Int32) → Nat → Nat → Nat → Int32
  | [], _, _, _ => 0
  | q :: r, c, k, a => if q.1 = a then (if q.2.1 = c ∧ q.2.2.1 = k then q.2.2.2 else zff r c k a) else zff r c k a
def zgf : List (Nat × Nat × Nat × Nat) → Nat → Nat → Nat → Option Nat
  | [], _, _, _ => none
  | q :: r, c, k, a => if q.1 = a then (if q.2.1 = c ∧ q.2.2.1 = k then some q.2.2.2 else zgf r c k a) else zgf r c k a
def zrf : List (Nat × Nat) → Nat → Nat → Option Nat
  | [], _, _ => none
  | q :: r, a, i => if q.1 = a then some (q.2 + i) else zrf r a i
def zMk (Ks Ls : List (Nat × Nat)) (Gs : List (Nat × Nat × Nat × Nat)) (Fs : List (Nat × Nat × Nat × Int32)) (Rs : List (Nat × Nat)) (xs : Nat → Int32) (n : Nat) : zS := (zkf Ks, zlf Ls, zff Fs, zgf Gs, fun a i => if a = 0 then xs i else 0, zrf Rs, fun _ _ => 0, n)
section ZMk
variable {Ks Ls : List (Nat × Nat)} {Gs : List (Nat × Nat × Nat × Nat)} {Fs : List (Nat × Nat × Nat × Int32)} {Rs : List (Nat × Nat)} {xs : Nat → Int32} {n : Nat}
theorem zkf_c (L : List (Nat × Nat)) (m v : Nat) : (fun a => if a = m then v else zkf L a) = zkf ((m, v) :: L) := funext fun a => by
  show _ = (if m = a then v else zkf L a)
  by_cases h : a = m
  · rw [if_pos h, if_pos h.symm]
  · rw [if_neg h, if_neg (fun q => h q.symm)]
theorem zlf_c (L : List (Nat × Nat)) (m v : Nat) : (fun a => if a = m then v else zlf L a) = zlf ((m, v) :: L) := funext fun a => by
  show _ = (if m = a then v else zlf L a)
  by_cases h : a = m
  · rw [if_pos h, if_pos h.symm]
  · rw [if_neg h, if_neg (fun q => h q.symm)]
theorem zmk_A {t N k1 n1 : Nat} (hk : 100 + t = k1) (h1 : n + 1 = n1) (h0 : n ≠ 0) (hR : ∀ i, zrf Rs n i = none) : znA1 (zMk Ks Ls Gs Fs Rs xs n) t N = zMk ((n, k1) :: Ks) ((n, N) :: Ls) Gs Fs Rs xs n1 := by
  subst hk
  subst h1
  have e5 : (fun (a' i' : Nat) => if a' = n then (0 : Int32) else if a' = 0 then xs i' else 0) = fun a' i' => if a' = 0 then xs i' else 0 := funext fun a => funext fun i => by
    by_cases h : a = n
    · rw [if_pos h, if_neg (by omega)]
    · rw [if_neg h]
  have e6 : (fun (a' i' : Nat) => if a' = n then none else zrf Rs a' i') = zrf Rs := funext fun a => funext fun i => by
    by_cases h : a = n
    · rw [if_pos h, h, hR]
    · rw [if_neg h]
  have e7 : (fun (a' _ : Nat) => if a' = n then (0 : Int64) else 0) = fun _ _ => 0 := funext fun a => funext fun i => by split <;> rfl
  show ((fun a => if a = n then 100 + t else zkf Ks a), (fun a => if a = n then N else zlf Ls a), zff Fs, zgf Gs, (fun (a' i' : Nat) => if a' = n then (0 : Int32) else if a' = 0 then xs i' else 0), (fun (a' i' : Nat) => if a' = n then none else zrf Rs a' i'), (fun (a' _ : Nat) => if a' = n then (0 : Int64) else 0), n + 1) = _
  rw [zkf_c, zlf_c, e5, e6, e7]
  rfl
theorem zmk_C {c n1 : Nat} (h1 : n + 1 = n1) (hF : ∀ c k, zff Fs c k n = 0) (hG : ∀ c k, zgf Gs c k n = none) : znC1 (zMk Ks Ls Gs Fs Rs xs n) c = zMk ((n, c) :: Ks) Ls Gs Fs Rs xs n1 := by
  subst h1
  have e3 : (fun (c' k' a' : Nat) => if a' = n then (0 : Int32) else zff Fs c' k' a') = zff Fs := funext fun c => funext fun k => funext fun a => by
    by_cases h : a = n
    · rw [if_pos h, h, hF]
    · rw [if_neg h]
  have e4 : (fun (c' k' a' : Nat) => if a' = n then none else zgf Gs c' k' a') = zgf Gs := funext fun c => funext fun k => funext fun a => by
    by_cases h : a = n
    · rw [if_pos h, h, hG]
    · rw [if_neg h]
  show ((fun a => if a = n then c else zkf Ks a), zlf Ls, (fun (c' k' a' : Nat) => if a' = n then (0 : Int32) else zff Fs c' k' a'), (fun (c' k' a' : Nat) => if a' = n then none else zgf Gs c' k' a'), (fun (a' i' : Nat) => if a' = 0 then xs i' else 0), zrf Rs, (fun (_ _ : Nat) => (0 : Int64)), n + 1) = _
  rw [zkf_c, e3, e4]
  rfl
theorem zmk_G {a c k o : Nat} : zsG (zMk Ks Ls Gs Fs Rs xs n) c k a (some o) = zMk Ks Ls ((a, c, k, o) :: Gs) Fs Rs xs n := by
  have e : (fun (c' k' a' : Nat) => if c' = c ∧ k' = k ∧ a' = a then some o else zgf Gs c' k' a') = zgf ((a, c, k, o) :: Gs) := funext fun c' => funext fun k' => funext fun a' => by
    show _ = (if a = a' then (if c = c' ∧ k = k' then some o else zgf Gs c' k' a') else zgf Gs c' k' a')
    by_cases h : c' = c ∧ k' = k ∧ a' = a
    · rw [if_pos h, if_pos h.2.2.symm, if_pos ⟨h.1.symm, h.2.1.symm⟩]
    · rw [if_neg h]
      by_cases h2 : a = a'
      · rw [if_pos h2, if_neg (fun q => h ⟨q.1.symm, q.2.symm, h2.symm⟩)]
      · rw [if_neg h2]
  show (zkf Ks, zlf Ls, zff Fs, (fun (c' k' a' : Nat) => if c' = c ∧ k' = k ∧ a' = a then some o else zgf Gs c' k' a'), (fun (a' i' : Nat) => if a' = 0 then xs i' else 0), zrf Rs, (fun (_ _ : Nat) => (0 : Int64)), n) = _
  rw [e]
  rfl
theorem zmk_F {a c k : Nat} {x : Int32} : zsF (zMk Ks Ls Gs Fs Rs xs n) c k a x = zMk Ks Ls Gs ((a, c, k, x) :: Fs) Rs xs n := by
  have e : (fun (c' k' a' : Nat) => if c' = c ∧ k' = k ∧ a' = a then x else zff Fs c' k' a') = zff ((a, c, k, x) :: Fs) := funext fun c' => funext fun k' => funext fun a' => by
    show _ = (if a = a' then (if c = c' ∧ k = k' then x else zff Fs c' k' a') else zff Fs c' k' a')
    by_cases h : c' = c ∧ k' = k ∧ a' = a
    · rw [if_pos h, if_pos h.2.2.symm, if_pos ⟨h.1.symm, h.2.1.symm⟩]
    · rw [if_neg h]
      by_cases h2 : a = a'
      · rw [if_pos h2, if_neg (fun q => h ⟨q.1.symm, q.2.symm, h2.symm⟩)]
      · rw [if_neg h2]
  show (zkf Ks, zlf Ls, (fun (c' k' a' : Nat) => if c' = c ∧ k' = k ∧ a' = a then x else zff Fs c' k' a'), zgf Gs, (fun (a' i' : Nat) => if a' = 0 then xs i' else 0), zrf Rs, (fun (_ _ : Nat) => (0 : Int64)), n) = _
  rw [e]
  rfl
theorem zsix {a n : Nat} : n ≤ a ∧ a ≤ n + 5 → a = n ∨ a = n + 1 ∨ a = n + 2 ∨ a = n + 3 ∨ a = n + 4 ∨ a = n + 5 := by omega
theorem zmk_M5 {t1 t2 M k1 k2 n1 n2 n3 n4 n5 n6 : Nat} (hk : 100 + t1 = k1) (hk2 : 100 + t2 = k2) (h1 : n + 1 = n1) (h2 : n + 2 = n2) (h3 : n + 3 = n3) (h4 : n + 4 = n4) (h5 : n + 5 = n5) (h6 : n + 6 = n6) (h0 : n ≠ 0) (hR : ∀ j i, zrf Rs (n + 1 + j) i = none) : znM (zMk Ks Ls Gs Fs Rs xs n) t1 t2 5 M = zMk ((n, k1) :: (n1, k2) :: (n2, k2) :: (n3, k2) :: (n4, k2) :: (n5, k2) :: Ks) ((n, 5) :: (n1, M) :: (n2, M) :: (n3, M) :: (n4, M) :: (n5, M) :: Ls) Gs Fs ((n, n1) :: Rs) xs n6 := by
  subst hk
  subst hk2
  subst h1
  subst h2
  subst h3
  subst h4
  subst h5
  subst h6
  have e1 : (fun a => if a = n then 100 + t1 else if n < a ∧ a ≤ n + 5 then 100 + t2 else zkf Ks a) = zkf ((n, 100 + t1) :: (n + 1, 100 + t2) :: (n + 2, 100 + t2) :: (n + 3, 100 + t2) :: (n + 4, 100 + t2) :: (n + 5, 100 + t2) :: Ks) := funext fun a => by
    show _ = (if n = a then 100 + t1 else if n + 1 = a then 100 + t2 else if n + 2 = a then 100 + t2 else if n + 3 = a then 100 + t2 else if n + 4 = a then 100 + t2 else if n + 5 = a then 100 + t2 else zkf Ks a)
    (repeat' split) <;> first | rfl | omega
  have e2 : (fun a => if a = n then 5 else if n < a ∧ a ≤ n + 5 then M else zlf Ls a) = zlf ((n, 5) :: (n + 1, M) :: (n + 2, M) :: (n + 3, M) :: (n + 4, M) :: (n + 5, M) :: Ls) := funext fun a => by
    show _ = (if n = a then 5 else if n + 1 = a then M else if n + 2 = a then M else if n + 3 = a then M else if n + 4 = a then M else if n + 5 = a then M else zlf Ls a)
    (repeat' split) <;> first | rfl | omega
  have e5 : (fun (a i : Nat) => if n ≤ a ∧ a ≤ n + 5 then (0 : Int32) else if a = 0 then xs i else 0) = fun a i => if a = 0 then xs i else 0 := funext fun a => funext fun i => by
    (repeat' split) <;> first | rfl | omega
  have e6 : (fun (a i : Nat) => if a = n then some (n + 1 + i) else if n < a ∧ a ≤ n + 5 then none else zrf Rs a i) = zrf ((n, n + 1) :: Rs) := funext fun a => funext fun i => by
    show _ = (if n = a then some (n + 1 + i) else zrf Rs a i)
    by_cases c1 : a = n
    · rw [if_pos c1, if_pos c1.symm]
    · rw [if_neg c1, if_neg (show ¬ n = a from fun q => c1 q.symm)]
      by_cases c2 : n < a ∧ a ≤ n + 5
      · rw [if_pos c2, show a = n + 1 + (a - n - 1) by omega, hR]
      · rw [if_neg c2]
  have e7 : (fun (a _ : Nat) => if n ≤ a ∧ a ≤ n + 5 then (0 : Int64) else 0) = fun _ _ => 0 := funext fun a => funext fun i => by split <;> rfl
  show ((fun a => if a = n then 100 + t1 else if n < a ∧ a ≤ n + 5 then 100 + t2 else zkf Ks a), (fun a => if a = n then 5 else if n < a ∧ a ≤ n + 5 then M else zlf Ls a), zff Fs, zgf Gs, (fun (a i : Nat) => if n ≤ a ∧ a ≤ n + 5 then (0 : Int32) else if a = 0 then xs i else 0), (fun (a i : Nat) => if a = n then some (n + 1 + i) else if n < a ∧ a ≤ n + 5 then none else zrf Rs a i), (fun (a _ : Nat) => if n ≤ a ∧ a ≤ n + 5 then (0 : Int64) else 0), n + 1 + 5) = _
  rw [e1, e2, e5, e6, e7]
  rfl
end ZMk
theorem zw_getIv {l : Launch} {y : zM} {R : Room} {pc : Nat} {lc : List (Nat × Value)} {st : List Value} {σ : zS} {uc us : Nat} {Q : Option Value → zS → Prop} {ix c k a : Nat} {x : Int32} (hd : decode y.2.1 pc = .ok (.getfield ix, 3)) (hf : zFL y.1.cls ix c k) (hi : zir c k = false) (hk : zK σ a = c) (hc : c < 100) (hx : zF σ c k a = x) (kk : zAW l y R (pc + 3) lc (.int x :: st) σ uc us Q) : zAW l y R pc lc (.ref a :: st) σ uc us Q := by
  refine zw_getI hd hf hi hk hc ?_
  rw [hx]
  exact kk
