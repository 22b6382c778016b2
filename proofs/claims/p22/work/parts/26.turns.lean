/-! the turns of a walk: how many are entered, how many steps are used -/
def tSum (f : Nat → Nat) : List Nat → Nat
  | [] => 0
  | x :: r => f x + tSum f r
theorem tSum_erase {f : Nat → Nat} {x : Nat} : ∀ (l : List Nat), x ∈ l → tSum f l = f x + tSum f (l.erase x)
  | [], h => (List.not_mem_nil h).elim
  | y :: r, h => by
    by_cases q : y = x
    · rw [q, List.erase_cons_head]; rfl
    · rw [List.erase_cons_tail (by simpa using q)]
      have h2 : x ∈ r := by
        rcases List.mem_cons.mp h with z | z
        · exact absurd z.symm q
        · exact z
      show f y + tSum f r = f x + (f y + tSum f (r.erase x))
      rw [tSum_erase r h2]
      omega
theorem tSum_congr {f g : Nat → Nat} : ∀ (l : List Nat), (∀ x, x ∈ l → f x = g x) → tSum f l = tSum g l
  | [], _ => rfl
  | y :: r, h => by
    show f y + tSum f r = g y + tSum g r
    rw [h y List.mem_cons_self, tSum_congr r (fun x hx => h x (List.mem_cons_of_mem _ hx))]
theorem tSum_le {f g : Nat → Nat} : ∀ (l : List Nat), (∀ x, x ∈ l → f x ≤ g x) → tSum f l ≤ tSum g l
  | [], _ => Nat.le_refl _
  | y :: r, h => Nat.add_le_add (h y List.mem_cons_self) (tSum_le r (fun x hx => h x (List.mem_cons_of_mem _ hx)))
theorem nd_erase {n : Nat} {l : List Nat} (hn : l.Nodup) (hl : ∀ x, x ∈ l → x < n + 1) : (l.erase n).Nodup ∧ ∀ x, x ∈ l.erase n → x < n := by
  refine ⟨hn.erase n, fun x hx => ?_⟩
  have h1 := hl x (List.mem_of_mem_erase hx)
  have h2 : x ≠ n := (hn.mem_erase_iff.mp hx).1
  omega
theorem nd_len : ∀ (n : Nat) (l : List Nat), l.Nodup → (∀ x, x ∈ l → x < n) → l.length ≤ n
  | 0, l, _, hl => by
    cases l with
    | nil => exact Nat.le_refl _
    | cons x r => exact absurd (hl x List.mem_cons_self) (by omega)
  | n + 1, l, hn, hl => by
    obtain ⟨h1, h2⟩ := nd_erase hn hl
    have h3 := nd_len n _ h1 h2
    by_cases q : n ∈ l
    · rw [List.length_erase_of_mem q] at h3
      omega
    · rw [List.erase_of_not_mem q] at h3
      omega
theorem nd_sum {fs len : Nat → Nat} : ∀ (n : Nat) (l : List Nat), l.Nodup → (∀ x, x ∈ l → x < n) → (∀ s, s < n → fs (s + 1) = fs s + len s) → tSum len l + fs 0 ≤ fs n
  | 0, l, _, hl, _ => by
    cases l with
    | nil => exact Nat.le_of_eq (Nat.zero_add _)
    | cons x r => exact absurd (hl x List.mem_cons_self) (by omega)
  | n + 1, l, hn, hl, hf => by
    obtain ⟨h1, h2⟩ := nd_erase hn hl
    have h3 := nd_sum n _ h1 h2 (fun s hs => hf s (by omega))
    have h4 := hf n (by omega)
    by_cases q : n ∈ l
    · rw [tSum_erase l q]
      omega
    · rw [List.erase_of_not_mem q] at h3
      omega
/-- the states entered are those of ent, lf of them left; each turn has used a step or left a state -/
def tEx (n : Nat) (E : Nat → List Nat) (ord nx : Nat → Nat) (path : List Nat) (en turn : Nat) : Prop :=
  ∃ ent : List Nat, ∃ lf, ent.Nodup ∧ (∀ s, s ∈ ent ↔ ord s ≠ 0) ∧ (∀ s, s ∈ ent → s < n) ∧ ent.length = en ∧ lf + path.length = en ∧ (∀ s, s ∈ ent → nx s ≤ (E s).length) ∧ turn ≤ tSum nx ent + lf
theorem tEx_en {n : Nat} {E : Nat → List Nat} {ord nx : Nat → Nat} {path : List Nat} {en turn : Nat} (h : tEx n E ord nx path en turn) : en ≤ n := by
  obtain ⟨ent, lf, h1, h2, h3, h4, h5, h6, h7⟩ := h
  rw [← h4]
  exact nd_len n ent h1 h3
theorem tEx_turn {n T : Nat} {E : Nat → List Nat} {ord nx : Nat → Nat} {path : List Nat} {en turn : Nat} {fs : Nat → Nat} (h : tEx n E ord nx path en turn) (hp : path ≠ []) (hf : ∀ s, s < n → fs (s + 1) = fs s + (E s).length) (hT : fs n ≤ T) : turn < T + n := by
  have hen := tEx_en h
  obtain ⟨ent, lf, h1, h2, h3, h4, h5, h6, h7⟩ := h
  have a := tSum_le ent h6
  have b := nd_sum (len := fun s => (E s).length) n ent h1 h3 hf
  have c : path.length ≠ 0 := fun e => hp (List.length_eq_zero_iff.mp e)
  omega
theorem tEx_0 {n : Nat} {E : Nat → List Nat} {ord nx : Nat → Nat} (h : ∀ s, ord s = 0) : tEx n E ord nx [] 0 0 :=
  ⟨[], 0, List.nodup_nil, fun s => ⟨fun q => (List.not_mem_nil q).elim, fun q => absurd (h s) q⟩, fun _ q => (List.not_mem_nil q).elim, rfl, rfl, fun _ q => (List.not_mem_nil q).elim, Nat.zero_le _⟩
theorem tEx_turn0 {n : Nat} {E : Nat → List Nat} {ord nx : Nat → Nat} {path : List Nat} {en turn : Nat} (h : tEx n E ord nx path en turn) : tEx n E ord nx path en 0 := by
  obtain ⟨ent, lf, h1, h2, h3, h4, h5, h6, h7⟩ := h
  exact ⟨ent, lf, h1, h2, h3, h4, h5, h6, Nat.zero_le _⟩
/-- a state entered, at the walk's start -/
theorem tEx_enter0 {n : Nat} {E : Nat → List Nat} {ord nx : Nat → Nat} {path : List Nat} {en turn s : Nat} (h : tEx n E ord nx path en turn) (h0 : ord s = 0) (hs : s < n) (x : Nat) (hx : x ≠ 0) : tEx n E (tU ord s x) (tU nx s 0) (s :: path) (en + 1) turn := by
  obtain ⟨ent, lf, h1, h2, h3, h4, h5, h6, h7⟩ := h
  have hns : s ∉ ent := fun q => (h2 s).mp q h0
  refine ⟨s :: ent, lf, List.nodup_cons.mpr ⟨hns, h1⟩, fun y => ?_, fun y hy => ?_, by rw [List.length_cons, h4], by rw [List.length_cons, ← h5]; omega, fun y hy => ?_, ?_⟩
  · by_cases q : y = s
    · rw [q, tU_s]
      exact ⟨fun _ => hx, fun _ => List.mem_cons_self⟩
    · rw [tU_n q, ← h2 y]
      exact ⟨fun z => (List.mem_cons.mp z).elim (fun z => absurd z q) id, List.mem_cons_of_mem _⟩
  · rcases List.mem_cons.mp hy with q | q
    · rw [q]; exact hs
    · exact h3 y q
  · rcases List.mem_cons.mp hy with q | q
    · rw [q, tU_s]; exact Nat.zero_le _
    · have e : y ≠ s := fun e => by rw [e] at q; exact hns q
      rw [tU_n e]
      exact h6 y q
  · show turn ≤ tU nx s 0 s + tSum (tU nx s 0) ent + lf
    have e : tSum (tU nx s 0) ent = tSum nx ent := tSum_congr ent (fun y hy => tU_n (fun e => by rw [e] at hy; exact hns hy))
    rw [tU_s, e]
    omega
/-- a step used -/
theorem tEx_step {n : Nat} {E : Nat → List Nat} {ord nx : Nat → Nat} {path : List Nat} {en turn v : Nat} (h : tEx n E ord nx path en turn) (hv : ord v ≠ 0) (hn : nx v < (E v).length) : tEx n E ord (tU nx v (nx v + 1)) path en (turn + 1) := by
  obtain ⟨ent, lf, h1, h2, h3, h4, h5, h6, h7⟩ := h
  have hve := (h2 v).mpr hv
  refine ⟨ent, lf, h1, h2, h3, h4, h5, fun y hy => ?_, ?_⟩
  · by_cases q : y = v
    · rw [q, tU_s]; omega
    · rw [tU_n q]; exact h6 y hy
  · rw [tSum_erase ent hve, tU_s, tSum_congr (ent.erase v) (g := nx) (fun y hy => tU_n (h1.mem_erase_iff.mp hy).1)]
    rw [tSum_erase ent hve] at h7
    omega
/-- a state left -/
theorem tEx_leave {n : Nat} {E : Nat → List Nat} {ord nx : Nat → Nat} {path : List Nat} {en turn v : Nat} (h : tEx n E ord nx (v :: path) en turn) : tEx n E ord nx path en (turn + 1) := by
  obtain ⟨ent, lf, h1, h2, h3, h4, h5, h6, h7⟩ := h
  rw [List.length_cons] at h5
  exact ⟨ent, lf + 1, h1, h2, h3, h4, by omega, h6, by omega⟩
