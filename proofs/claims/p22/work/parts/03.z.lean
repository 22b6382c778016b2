/-! THE Z LAYER. An abstract heap: ids 0, 1, 2 ..; id 0 is the script, id k > 0 lies at the address b0 + k. A kind below 100 is a class (its place in vwCl), 100 + t an array whose parts have the type zAT t, 999: nothing lies there yet. -/
abbrev zS : Type := (Nat → Nat) × (Nat → Nat) × (Nat → Nat → Nat → Int32) × (Nat → Nat → Nat → Option Nat) × (Nat → Nat → Int32) × (Nat → Nat → Option Nat) × (Nat → Nat → Int64) × Nat
def zK (σ : zS) : Nat → Nat := σ.1
def zL (σ : zS) : Nat → Nat := σ.2.1
def zF (σ : zS) : Nat → Nat → Nat → Int32 := σ.2.2.1
def zG (σ : zS) : Nat → Nat → Nat → Option Nat := σ.2.2.2.1
def zI (σ : zS) : Nat → Nat → Int32 := σ.2.2.2.2.1
def zR (σ : zS) : Nat → Nat → Option Nat := σ.2.2.2.2.2.1
def zJ (σ : zS) : Nat → Nat → Int64 := σ.2.2.2.2.2.2.1
def zn (σ : zS) : Nat := σ.2.2.2.2.2.2.2
def zsF (σ : zS) (c k a : Nat) (x : Int32) : zS := (zK σ, zL σ, fun c' k' a' => if c' = c ∧ k' = k ∧ a' = a then x else zF σ c' k' a', zG σ, zI σ, zR σ, zJ σ, zn σ)
def zsG (σ : zS) (c k a : Nat) (x : Option Nat) : zS := (zK σ, zL σ, zF σ, fun c' k' a' => if c' = c ∧ k' = k ∧ a' = a then x else zG σ c' k' a', zI σ, zR σ, zJ σ, zn σ)
def zsI (σ : zS) (a i : Nat) (x : Int32) : zS := (zK σ, zL σ, zF σ, zG σ, fun a' i' => if a' = a ∧ i' = i then x else zI σ a' i', zR σ, zJ σ, zn σ)
def zsR (σ : zS) (a i : Nat) (x : Option Nat) : zS := (zK σ, zL σ, zF σ, zG σ, zI σ, fun a' i' => if a' = a ∧ i' = i then x else zR σ a' i', zJ σ, zn σ)
def zsJ (σ : zS) (a i : Nat) (x : Int64) : zS := (zK σ, zL σ, zF σ, zG σ, zI σ, zR σ, fun a' i' => if a' = a ∧ i' = i then x else zJ σ a' i', zn σ)
/-- a whole row of ints -/
def zsW (σ : zS) (a : Nat) (f : Nat → Int32) : zS := (zK σ, zL σ, zF σ, zG σ, fun a' i' => if a' = a then f i' else zI σ a' i', zR σ, zJ σ, zn σ)
/-- a new object of the class c -/
def znC1 (σ : zS) (c : Nat) : zS := (fun a => if a = zn σ then c else zK σ a, zL σ, fun c' k' a' => if a' = zn σ then 0 else zF σ c' k' a', fun c' k' a' => if a' = zn σ then none else zG σ c' k' a', zI σ, zR σ, zJ σ, zn σ + 1)
/-- a new array, of kind 100 + t and of the length n -/
def znA1 (σ : zS) (t n : Nat) : zS := (fun a => if a = zn σ then 100 + t else zK σ a, fun a => if a = zn σ then n else zL σ a, zF σ, zG σ, fun a' i' => if a' = zn σ then 0 else zI σ a' i', fun a' i' => if a' = zn σ then none else zR σ a' i', fun a' i' => if a' = zn σ then 0 else zJ σ a' i', zn σ + 1)
/-- a new array of ints, with what it holds -/
def znA2 (σ : zS) (t n : Nat) (f : Nat → Int32) : zS := (fun a => if a = zn σ then 100 + t else zK σ a, fun a => if a = zn σ then n else zL σ a, zF σ, zG σ, fun a' i' => if a' = zn σ then f i' else zI σ a' i', zR σ, zJ σ, zn σ + 1)
theorem zK_zsF (σ : zS) (c k a : Nat) (x : Int32) : zK (zsF σ c k a x) = zK σ := (rfl)
theorem zL_zsF (σ : zS) (c k a : Nat) (x : Int32) : zL (zsF σ c k a x) = zL σ := (rfl)
theorem zG_zsF (σ : zS) (c k a : Nat) (x : Int32) : zG (zsF σ c k a x) = zG σ := (rfl)
theorem zI_zsF (σ : zS) (c k a : Nat) (x : Int32) : zI (zsF σ c k a x) = zI σ := (rfl)
theorem zR_zsF (σ : zS) (c k a : Nat) (x : Int32) : zR (zsF σ c k a x) = zR σ := (rfl)
theorem zJ_zsF (σ : zS) (c k a : Nat) (x : Int32) : zJ (zsF σ c k a x) = zJ σ := (rfl)
theorem zn_zsF (σ : zS) (c k a : Nat) (x : Int32) : zn (zsF σ c k a x) = zn σ := (rfl)
theorem zK_zsG (σ : zS) (c k a : Nat) (x : Option Nat) : zK (zsG σ c k a x) = zK σ := (rfl)
theorem zL_zsG (σ : zS) (c k a : Nat) (x : Option Nat) : zL (zsG σ c k a x) = zL σ := (rfl)
theorem zF_zsG (σ : zS) (c k a : Nat) (x : Option Nat) : zF (zsG σ c k a x) = zF σ := (rfl)
theorem zI_zsG (σ : zS) (c k a : Nat) (x : Option Nat) : zI (zsG σ c k a x) = zI σ := (rfl)
theorem zR_zsG (σ : zS) (c k a : Nat) (x : Option Nat) : zR (zsG σ c k a x) = zR σ := (rfl)
theorem zJ_zsG (σ : zS) (c k a : Nat) (x : Option Nat) : zJ (zsG σ c k a x) = zJ σ := (rfl)
theorem zn_zsG (σ : zS) (c k a : Nat) (x : Option Nat) : zn (zsG σ c k a x) = zn σ := (rfl)
theorem zK_zsI (σ : zS) (a i : Nat) (x : Int32) : zK (zsI σ a i x) = zK σ := (rfl)
theorem zL_zsI (σ : zS) (a i : Nat) (x : Int32) : zL (zsI σ a i x) = zL σ := (rfl)
theorem zF_zsI (σ : zS) (a i : Nat) (x : Int32) : zF (zsI σ a i x) = zF σ := (rfl)
theorem zG_zsI (σ : zS) (a i : Nat) (x : Int32) : zG (zsI σ a i x) = zG σ := (rfl)
theorem zR_zsI (σ : zS) (a i : Nat) (x : Int32) : zR (zsI σ a i x) = zR σ := (rfl)
theorem zJ_zsI (σ : zS) (a i : Nat) (x : Int32) : zJ (zsI σ a i x) = zJ σ := (rfl)
theorem zn_zsI (σ : zS) (a i : Nat) (x : Int32) : zn (zsI σ a i x) = zn σ := (rfl)
theorem zK_zsR (σ : zS) (a i : Nat) (x : Option Nat) : zK (zsR σ a i x) = zK σ := (rfl)
theorem zL_zsR (σ : zS) (a i : Nat) (x : Option Nat) : zL (zsR σ a i x) = zL σ := (rfl)
theorem zF_zsR (σ : zS) (a i : Nat) (x : Option Nat) : zF (zsR σ a i x) = zF σ := (rfl)
theorem zG_zsR (σ : zS) (a i : Nat) (x : Option Nat) : zG (zsR σ a i x) = zG σ := (rfl)
theorem zI_zsR (σ : zS) (a i : Nat) (x : Option Nat) : zI (zsR σ a i x) = zI σ := (rfl)
theorem zJ_zsR (σ : zS) (a i : Nat) (x : Option Nat) : zJ (zsR σ a i x) = zJ σ := (rfl)
theorem zn_zsR (σ : zS) (a i : Nat) (x : Option Nat) : zn (zsR σ a i x) = zn σ := (rfl)
theorem zK_zsJ (σ : zS) (a i : Nat) (x : Int64) : zK (zsJ σ a i x) = zK σ := (rfl)
theorem zL_zsJ (σ : zS) (a i : Nat) (x : Int64) : zL (zsJ σ a i x) = zL σ := (rfl)
theorem zF_zsJ (σ : zS) (a i : Nat) (x : Int64) : zF (zsJ σ a i x) = zF σ := (rfl)
theorem zG_zsJ (σ : zS) (a i : Nat) (x : Int64) : zG (zsJ σ a i x) = zG σ := (rfl)
theorem zI_zsJ (σ : zS) (a i : Nat) (x : Int64) : zI (zsJ σ a i x) = zI σ := (rfl)
theorem zR_zsJ (σ : zS) (a i : Nat) (x : Int64) : zR (zsJ σ a i x) = zR σ := (rfl)
theorem zn_zsJ (σ : zS) (a i : Nat) (x : Int64) : zn (zsJ σ a i x) = zn σ := (rfl)
theorem zK_zsW (σ : zS) (a : Nat) (f : Nat → Int32) : zK (zsW σ a f) = zK σ := (rfl)
theorem zL_zsW (σ : zS) (a : Nat) (f : Nat → Int32) : zL (zsW σ a f) = zL σ := (rfl)
theorem zF_zsW (σ : zS) (a : Nat) (f : Nat → Int32) : zF (zsW σ a f) = zF σ := (rfl)
theorem zG_zsW (σ : zS) (a : Nat) (f : Nat → Int32) : zG (zsW σ a f) = zG σ := (rfl)
theorem zR_zsW (σ : zS) (a : Nat) (f : Nat → Int32) : zR (zsW σ a f) = zR σ := (rfl)
theorem zJ_zsW (σ : zS) (a : Nat) (f : Nat → Int32) : zJ (zsW σ a f) = zJ σ := (rfl)
theorem zn_zsW (σ : zS) (a : Nat) (f : Nat → Int32) : zn (zsW σ a f) = zn σ := (rfl)
theorem zF_zsF (σ : zS) (c k a : Nat) (x : Int32) (c' k' a' : Nat) : zF (zsF σ c k a x) c' k' a' = if c' = c ∧ k' = k ∧ a' = a then x else zF σ c' k' a' := (rfl)
theorem zG_zsG (σ : zS) (c k a : Nat) (x : Option Nat) (c' k' a' : Nat) : zG (zsG σ c k a x) c' k' a' = if c' = c ∧ k' = k ∧ a' = a then x else zG σ c' k' a' := (rfl)
theorem zI_zsI (σ : zS) (a i : Nat) (x : Int32) (a' i' : Nat) : zI (zsI σ a i x) a' i' = if a' = a ∧ i' = i then x else zI σ a' i' := (rfl)
theorem zR_zsR (σ : zS) (a i : Nat) (x : Option Nat) (a' i' : Nat) : zR (zsR σ a i x) a' i' = if a' = a ∧ i' = i then x else zR σ a' i' := (rfl)
theorem zJ_zsJ (σ : zS) (a i : Nat) (x : Int64) (a' i' : Nat) : zJ (zsJ σ a i x) a' i' = if a' = a ∧ i' = i then x else zJ σ a' i' := (rfl)
theorem zI_zsW (σ : zS) (a : Nat) (f : Nat → Int32) (a' i' : Nat) : zI (zsW σ a f) a' i' = if a' = a then f i' else zI σ a' i' := (rfl)
theorem zK_znC1 (σ : zS) (c : Nat) (a : Nat) : zK (znC1 σ c) a = if a = zn σ then c else zK σ a := (rfl)
theorem zL_znC1 (σ : zS) (c : Nat) : zL (znC1 σ c) = zL σ := (rfl)
theorem zF_znC1 (σ : zS) (c : Nat) (c' k' a' : Nat) : zF (znC1 σ c) c' k' a' = if a' = zn σ then 0 else zF σ c' k' a' := (rfl)
theorem zG_znC1 (σ : zS) (c : Nat) (c' k' a' : Nat) : zG (znC1 σ c) c' k' a' = if a' = zn σ then none else zG σ c' k' a' := (rfl)
theorem zI_znC1 (σ : zS) (c : Nat) : zI (znC1 σ c) = zI σ := (rfl)
theorem zR_znC1 (σ : zS) (c : Nat) : zR (znC1 σ c) = zR σ := (rfl)
theorem zJ_znC1 (σ : zS) (c : Nat) : zJ (znC1 σ c) = zJ σ := (rfl)
theorem zn_znC1 (σ : zS) (c : Nat) : zn (znC1 σ c) = zn σ + 1 := (rfl)
theorem zK_znA1 (σ : zS) (t n : Nat) (a : Nat) : zK (znA1 σ t n) a = if a = zn σ then 100 + t else zK σ a := (rfl)
theorem zL_znA1 (σ : zS) (t n : Nat) (a : Nat) : zL (znA1 σ t n) a = if a = zn σ then n else zL σ a := (rfl)
theorem zF_znA1 (σ : zS) (t n : Nat) : zF (znA1 σ t n) = zF σ := (rfl)
theorem zG_znA1 (σ : zS) (t n : Nat) : zG (znA1 σ t n) = zG σ := (rfl)
theorem zI_znA1 (σ : zS) (t n : Nat) (a' i' : Nat) : zI (znA1 σ t n) a' i' = if a' = zn σ then 0 else zI σ a' i' := (rfl)
theorem zR_znA1 (σ : zS) (t n : Nat) (a' i' : Nat) : zR (znA1 σ t n) a' i' = if a' = zn σ then none else zR σ a' i' := (rfl)
theorem zJ_znA1 (σ : zS) (t n : Nat) (a' i' : Nat) : zJ (znA1 σ t n) a' i' = if a' = zn σ then 0 else zJ σ a' i' := (rfl)
theorem zn_znA1 (σ : zS) (t n : Nat) : zn (znA1 σ t n) = zn σ + 1 := (rfl)
theorem zK_znA2 (σ : zS) (t n : Nat) (f : Nat → Int32) (a : Nat) : zK (znA2 σ t n f) a = if a = zn σ then 100 + t else zK σ a := (rfl)
theorem zL_znA2 (σ : zS) (t n : Nat) (f : Nat → Int32) (a : Nat) : zL (znA2 σ t n f) a = if a = zn σ then n else zL σ a := (rfl)
theorem zF_znA2 (σ : zS) (t n : Nat) (f : Nat → Int32) : zF (znA2 σ t n f) = zF σ := (rfl)
theorem zG_znA2 (σ : zS) (t n : Nat) (f : Nat → Int32) : zG (znA2 σ t n f) = zG σ := (rfl)
theorem zI_znA2 (σ : zS) (t n : Nat) (f : Nat → Int32) (a' i' : Nat) : zI (znA2 σ t n f) a' i' = if a' = zn σ then f i' else zI σ a' i' := (rfl)
theorem zR_znA2 (σ : zS) (t n : Nat) (f : Nat → Int32) : zR (znA2 σ t n f) = zR σ := (rfl)
theorem zJ_znA2 (σ : zS) (t n : Nat) (f : Nat → Int32) : zJ (znA2 σ t n f) = zJ σ := (rfl)
theorem zn_znA2 (σ : zS) (t n : Nat) (f : Nat → Int32) : zn (znA2 σ t n f) = zn σ + 1 := (rfl)
def zWF (σ : zS) : Prop := 0 < zn σ ∧ zK σ 0 = 100 ∧ ∀ a, zn σ ≤ a → zK σ a = 999
theorem zWF_lt {σ : zS} (h : zWF σ) {a c : Nat} (hk : zK σ a = c) (hc : c ≠ 999) : a < zn σ := by
  rcases Nat.lt_or_ge a (zn σ) with q | q
  · exact q
  · exact absurd ((h.2.2 a q).symm.trans hk).symm hc
theorem zWF_ne {σ : zS} (h : zWF σ) {a c : Nat} (hk : zK σ a = c) (hc : c ≠ 999) : a ≠ zn σ := fun e => by
  have := zWF_lt h hk hc
  omega
theorem zWF_pos {σ : zS} (h : zWF σ) {a c : Nat} (hk : zK σ a = c) (hc : c ≠ 100) : 0 < a := by
  rcases Nat.eq_zero_or_pos a with q | q
  · subst q
    exact absurd (hk.symm.trans h.2.1) hc
  · exact q
theorem zWF_sF {σ : zS} (h : zWF σ) (c k a : Nat) (x : Int32) : zWF (zsF σ c k a x) := h
theorem zWF_sG {σ : zS} (h : zWF σ) (c k a : Nat) (x : Option Nat) : zWF (zsG σ c k a x) := h
theorem zWF_sI {σ : zS} (h : zWF σ) (a i : Nat) (x : Int32) : zWF (zsI σ a i x) := h
theorem zWF_sR {σ : zS} (h : zWF σ) (a i : Nat) (x : Option Nat) : zWF (zsR σ a i x) := h
theorem zWF_sJ {σ : zS} (h : zWF σ) (a i : Nat) (x : Int64) : zWF (zsJ σ a i x) := h
theorem zWF_sW {σ : zS} (h : zWF σ) (a : Nat) (f : Nat → Int32) : zWF (zsW σ a f) := h
theorem zWF_new {σ σ' : zS} (h : zWF σ) (c : Nat) (e1 : zK σ' = fun a => if a = zn σ then c else zK σ a) (e2 : zn σ' = zn σ + 1) : zWF σ' := by
  refine ⟨by rw [e2]; omega, ?_, fun a ha => ?_⟩
  · rw [e1]
    show (if 0 = zn σ then c else zK σ 0) = 100
    rw [if_neg (by have := h.1; omega)]
    exact h.2.1
  · rw [e2] at ha
    rw [e1]
    show (if a = zn σ then c else zK σ a) = 999
    rw [if_neg (by omega)]
    exact h.2.2 a (by omega)
theorem zWF_C1 {σ : zS} (h : zWF σ) (c : Nat) : zWF (znC1 σ c) := zWF_new h c rfl rfl
theorem zWF_A1 {σ : zS} (h : zWF σ) (t n : Nat) : zWF (znA1 σ t n) := zWF_new h (100 + t) rfl rfl
theorem zWF_A2 {σ : zS} (h : zWF σ) (t n : Nat) (f : Nat → Int32) : zWF (znA2 σ t n f) := zWF_new h (100 + t) rfl rfl
theorem zK_old {σ σ' : zS} (h : zWF σ) {c' : Nat} (e1 : zK σ' = fun a => if a = zn σ then c' else zK σ a) {a c : Nat} (hk : zK σ a = c) (hc : c ≠ 999) : zK σ' a = c := by
  rw [e1]
  show (if a = zn σ then c' else zK σ a) = c
  rw [if_neg (zWF_ne h hk hc)]
  exact hk
/-! ids to addresses -/
def zg (b b0 k : Nat) : Nat := if k = 0 then b else b0 + k
theorem zg_pos {b b0 k : Nat} (h : 0 < k) : zg b b0 k = b0 + k := if_neg (by omega)
def zv (g : Nat → Nat) (v : Value) : Value := match v with
  | .ref a => .ref (g a)
  | v => v
theorem zv_rf (g : Nat → Nat) (r : Option Nat) : zv g (va_rf r) = va_rf (r.map g) := by cases r <;> rfl
theorem zv_cat (g : Nat → Nat) (v : Value) : (zv g v).category = v.category := by cases v <;> rfl
def zir (c k : Nat) : Bool := (zFT c k).isReference
def zfv (σ : zS) (c k a : Nat) : Value := if zir c k = true then va_rf (zG σ c k a) else .int (zF σ c k a)
def zak (t : Nat) : Nat := if (zAT t).isReference = true then 2 else if zAT t = .long then 1 else 0
def zpay (g : Nat → Nat) (σ : zS) (a : Nat) : (Nat → Int32) ⊕ (Nat → Int64) ⊕ (Nat → UInt32) ⊕ (Nat → UInt64) ⊕ (Nat → Option Nat) :=
  if zak (zK σ a - 100) = 0 then .inl (zI σ a) else if zak (zK σ a - 100) = 1 then .inr (.inl (zJ σ a)) else .inr (.inr (.inr (.inr (fun i => (zR σ a i).map g))))
def zAt (D : va_G) (dt : Nat → ClassId) (g : Nat → Nat) (σ : zS) (a : Nat) (H : Heap) (q : Nat) : Prop :=
  if zK σ a < 100 then zK σ a < znC ∧ t_OB q (D.1 (zK σ a)) (zcl (zK σ a)).2.2 (D.2 (zK σ a)) H (fun j => zv g (zfv σ (zK σ a) j a))
  else zK σ a < 100 + znA ∧ H[q]? = some (vp_cell (dt (zK σ a - 100)) (zL σ a, zpay g σ a))
def zRep (D : va_G) (dt : Nat → ClassId) (b b0 : Nat) (σ : zS) (U : State) (H : Heap) : Prop :=
  zWF σ ∧ H.size = b0 + zn σ ∧ b ≤ b0 ∧ (∀ k, 0 < k → k < zn σ → zK σ k ≠ 998 → zAt D dt (zg b b0) σ k H (b0 + k)) ∧ va_X b (zL σ 0) (zI σ 0) U H ∧ zTh b0 U H
def zAOA (t : FieldType) (U : State) : Prop := (Cond.arrayOver (.array t)).before #[] U = true
def zOv (t : FieldType) (U : State) : Prop := match t with
  | .object C => va_AO C U
  | .array t => zAOA t U
  | _ => True
theorem zAOA.moved {t : FieldType} {u U : State} (hvm : u.vm.Alike U.vm) (h : zAOA t u) : zAOA t U := by
  obtain ⟨comp, c, k, h1, h2, h3, h4, h5⟩ := arrayOverA_spec h
  obtain ⟨k', hk', he⟩ := hvm.2.2 _ _ h3
  have e1 := va_idx_bare u.vm comp
  first | rw [hvm.bare_eq] at e1 | rw [← hvm.bare_eq] at e1
  have hi := (va_idx_bare U.vm comp).symm.trans (e1.trans h2)
  have hkind : k'.kind = .array comp (.array t) := by rw [he]; exact h4
  have f1 : U.vm.findClass (FieldType.array t).toString = some comp := by rw [hvm.findClass]; exact h1
  have f2 : U.vm.findClass ("[" ++ (FieldType.array t).toString) = some c := by rw [hvm.findClass]; exact h5
  unfold zAOA Cond.before Cond.holds
  simp only [Cond.value]
  rw [f1, Option.bind_some]
  refine (congrArg (fun o : Option Nat => (o.bind (fun c => (U.vm.classes[c]?).map fun (k : Class) => match k.kind with | .array _ ty => decide (ty = FieldType.array t) && decide (U.vm.findClass ("[" ++ (FieldType.array t).toString) = some c) | _ => false) == some true)) hi).trans ?_
  simp [hk', hkind, f2]
theorem zOv.moved {t : FieldType} {u U : State} (hvm : u.vm.Alike U.vm) (h : zOv t u) : zOv t U := by
  cases t <;> first | exact va_AO.moved hvm h | exact zAOA.moved hvm h | trivial
theorem zOv.same {t : FieldType} {u U : State} (hvm : u.vm = U.vm) (h : zOv t u) : zOv t U := zOv.moved (hvm ▸ Vm.Alike.refl u.vm) h
def zNs (U : State) : Prop := (∀ q ∈ zNF, va_Nw (.fieldLinkNest q.1 q.2.1 q.2.2.1 q.2.2.2.1 q.2.2.2.2.1 q.2.2.2.2.2) U) ∧ (∀ q ∈ zNM, va_Nw (.methodLinkNest q.1 q.2.1 q.2.2.1 q.2.2.2) U) ∧ (∀ t, t < znA → zOv (zAT t) U) ∧ zXS U
def zKK (D : va_G) (dt : Nat → ClassId) (U : State) : Prop := va_K D vwCl ((List.range znA).map (fun t => (dt t, zAT t))) U ∧ zNs U
theorem zNs.moved {s U : State} (hW : s.WarmedH U.vm) (h : zNs s) : zNs U := ⟨fun q hq => va_Nw.warmF hW (h.1 q hq), fun q hq => va_Nw.warmM hW (h.2.1 q hq), fun t ht => zOv.moved hW.alike (h.2.2.1 t ht), zXS.moved hW h.2.2.2⟩
theorem zKK.moved {D : va_G} {dt : Nat → ClassId} {s U : State} (hW : s.WarmedH U.vm) (h : zKK D dt s) : zKK D dt U := ⟨va_K.moved hW.alike h.1, h.2.moved hW⟩
theorem zKK.calling {D : va_G} {dt : Nat → ClassId} {U : State} {g : JFrame} {mk : MethodId} {a : Array Value} (h : zKK D dt U) : zKK D dt (U.calling g mk a) := ⟨va_K.moved (u := U) (U := U.calling g mk a) (Vm.Alike.refl U.vm) h.1, ⟨fun q hq => va_Nw.same (u := U) (U := U.calling g mk a) rfl rfl (h.2.1 q hq), fun q hq => va_Nw.same (u := U) (U := U.calling g mk a) rfl rfl (h.2.2.1 q hq), fun t ht => zOv.same (u := U) (U := U.calling g mk a) rfl (h.2.2.2.1 t ht), zXS.same (s := U) (U := U.calling g mk a) rfl h.2.2.2.2⟩⟩
theorem zRep.moved {D : va_G} {dt : Nat → ClassId} {b b0 : Nat} {σ : zS} {u U : State} {H : Heap} (hvm : u.vm.Alike U.vm) (h : zRep D dt b b0 σ u H) : zRep D dt b b0 σ U H := ⟨h.1, h.2.1, h.2.2.1, h.2.2.2.1, va_X.moved hvm h.2.2.2.2.1, zTh.moved hvm h.2.2.2.2.2⟩
theorem zKK.arr {D : va_G} {dt : Nat → ClassId} {U : State} (h : zKK D dt U) {t : Nat} (ht : t < znA) : ArrOfT U (dt t) (zAT t) ∧ va_RA U (dt t) (zAT t) := h.1.2 t (dt t, zAT t) (by rw [List.getElem?_map, List.getElem?_range ht]; rfl)
theorem zRep.lt {D : va_G} {dt : Nat → ClassId} {b b0 : Nat} {σ : zS} {U : State} {H : Heap} (h : zRep D dt b b0 σ U H) {k : Nat} (hk : k < zn σ) (h0 : 0 < k) : b0 + k < H.size := by rw [h.2.1]; omega
/-- a cell at another heap -/
theorem zAt.kept {D : va_G} {dt : Nat → ClassId} {g : Nat → Nat} {σ : zS} {a q : Nat} {H H1 : Heap} (h : zAt D dt g σ a H q) (hq : H1[q]? = H[q]?) : zAt D dt g σ a H1 q := by
  unfold zAt at h ⊢
  split
  · rename_i hc
    rw [if_pos hc] at h
    exact ⟨h.1, h.2.kept hq⟩
  · rename_i hc
    rw [if_neg hc] at h
    exact ⟨h.1, hq.trans h.2⟩
theorem zAt.same {D : va_G} {dt : Nat → ClassId} {g : Nat → Nat} {σ σ' : zS} {a q : Nat} {H : Heap} (h : zAt D dt g σ a H q) (e1 : zK σ' a = zK σ a) (e2 : zL σ' a = zL σ a) (e3 : ∀ c k, zF σ' c k a = zF σ c k a) (e4 : ∀ c k, zG σ' c k a = zG σ c k a) (e5 : zI σ' a = zI σ a) (e6 : zR σ' a = zR σ a) (e7 : zJ σ' a = zJ σ a) : zAt D dt g σ' a H q := by
  have f : ∀ c k, zfv σ' c k a = zfv σ c k a := fun c k => by unfold zfv; rw [e3, e4]
  have f2 : zpay g σ' a = zpay g σ a := by unfold zpay; rw [e1, e5, e6, e7]
  unfold zAt at h ⊢
  rw [e1, e2, f2]
  split
  · rename_i hc
    rw [if_pos hc] at h
    exact ⟨h.1, h.2.to (fun k _ => by simp only [f])⟩
  · rename_i hc
    rw [if_neg hc] at h
    exact h
/-! locals: the first entry of a place counts -/
def zlk (lc : List (Nat × Value)) (i : Nat) : Option Value := match lc with
  | [] => none
  | q :: r => if q.1 = i then some q.2 else zlk r i
def zHas (ls : Array Slot) (nL : Nat) (g : Nat → Nat) (lc : List (Nat × Value)) : Prop := ls.size = nL ∧ lv_wf ls ∧ ∀ i v, zlk lc i = some v → ls[i]? = some (.val (zv g v))
/-- no long and no double lies just below the place -/
def zlo (lc : List (Nat × Value)) (i : Nat) : Bool := match i with
  | 0 => true
  | j + 1 => match zlk lc j with
    | some v => v.category == 1
    | none => true
theorem zHas.sub {ls : Array Slot} {nL : Nat} {g : Nat → Nat} {lc lc' : List (Nat × Value)} (h : zHas ls nL g lc) (hs : ∀ i v, zlk lc' i = some v → zlk lc i = some v) : zHas ls nL g lc' := ⟨h.1, h.2.1, fun i v hv => h.2.2 i v (hs i v hv)⟩
theorem zsub_nil {lc : List (Nat × Value)} : ∀ i v, zlk [] i = some v → zlk lc i = some v := fun _ _ h => by cases h
theorem zsub_cons {lc r : List (Nat × Value)} {i : Nat} {v : Value} (h : zlk lc i = some v) (hr : ∀ i v, zlk r i = some v → zlk lc i = some v) : ∀ j w, zlk ((i, v) :: r) j = some w → zlk lc j = some w := fun j w hw => by
  unfold zlk at hw
  split at hw
  · rename_i e
    cases hw
    have e : i = j := e
    subst e
    exact h
  · exact hr j w hw
def zCtx (y : zM) (p : Program) (s : State) (m : MethodId) (args : Array Value) (meth : Method) (c : Code) : Prop := p.tables.exec = Jvm.exec ∧ c.code = y.2.1 ∧ meth.sig.returnType = y.2.2.2.1 ∧ c.maxLocals = y.2.2.1 ∧ s.vm.findClass y.1.cls = some m.cls ∧ (∀ w ∈ zT, w.before args s = true) ∧ meth.locks = false ∧ (y.1.name = "<init>" → meth.name = "<init>") ∧ (zHH y.1 ≠ [] → c.exceptionTable.toList = tableOf (zHH y.1))
/-- an instruction that leaves the method, and what it answers -/
def zRet4 (y : zM) (pc : Nat) (v : Option Value) (st : List Value) : Prop :=
  (v = none ∧ st = [] ∧ y.2.2.2.1 = none ∧ decode y.2.1 pc = .ok (.return_, 1)) ∨
  (∃ x ty, v = some (.int x) ∧ st = [.int x] ∧ y.2.2.2.1 = some ty ∧ narrow ty (.int x) = .int x ∧ decode y.2.1 pc = .ok (.ireturn, 1)) ∨
  (∃ w ty, v = some w ∧ st = [w] ∧ (w = .null ∨ ∃ a, w = .ref a) ∧ y.2.2.2.1 = some ty ∧ ((∃ n, ty = .object n) ∨ ∃ t, ty = .array t) ∧ decode y.2.1 pc = .ok (.areturn, 1)) ∨
  (∃ x, v = some (.long x) ∧ st = [.long x] ∧ y.2.2.2.1 = some .long ∧ decode y.2.1 pc = .ok (.lreturn, 1)) ∨
  (∃ x, v = some (.double x) ∧ st = [.double x] ∧ y.2.2.2.1 = some .double ∧ decode y.2.1 pc = .ok (.dreturn, 1))
/-- or a throw: its number stands as a float -/
def zRet (y : zM) (R : Room) (pc : Nat) (v : Option Value) (st : List Value) (uc us : Nat) (ls : Array Slot) : Prop :=
  zRet4 y pc v st ∨ (∃ k, v = some (.float k) ∧ st = [] ∧ ls.size = y.2.2.1 ∧ zThr y pc k ∧ (uc + 1 ≤ R.cells ∧ us + 6 ≤ R.slots) ∧ 6 ≤ R.frames ∧ 100 ≤ R.locals)
/-- from here the method comes to an answer and a heap with Q -/
def zAW (l : Launch) (y : zM) (R : Room) (pc : Nat) (lc : List (Nat × Value)) (st : List Value) (σ : zS) (uc us : Nat) (Q : Option Value → zS → Prop) : Prop :=
  ∀ (p : Program) (e : Env) (s : State) (m : MethodId) (args : Array Value) (below : List Frame) (meth : Method) (c : Code) (D : va_G) (dt : Nat → ClassId) (b b0 : Nat) (H : Heap) (locs : List Loc) (ls : Array Slot) (Qs : State → Prop),
    zCtx y p s m args meth c → zKK D dt s → zRep D dt b b0 σ s H → b0 + 1 ≤ s.heap.size → va_S (fun q => b0 < q) s.heap H locs → zHas ls y.2.2.1 (zg b b0) lc → (uc ≤ R.cells ∧ us ≤ R.slots) →
    (∀ (v : Option Value) (σ' : zS) (pc' : Nat) (st' : List Value) (H' : Heap) (locs' : List Loc) (uc' us' : Nat) (ls' : Array Slot), zRet y R pc' v st' uc' us' ls' → Q v σ' → zRep D dt b b0 σ' s H' → va_S (fun q => b0 < q) s.heap H' locs' → (uc' ≤ R.cells ∧ us' ≤ R.slots) → W p l e R s m args below meth c H' locs' uc' us' Qs (F0 m pc' ls' (st'.map (zv (zg b b0))))) →
    W p l e R s m args below meth c H locs uc us Qs (F0 m pc ls (st.map (zv (zg b b0))))
section ZR
variable {l : Launch} {y : zM} {R : Room} {pc : Nat} {lc : List (Nat × Value)} {st : List Value} {σ : zS} {uc us : Nat} {Q : Option Value → zS → Prop}
theorem zw_weak {Q' : Option Value → zS → Prop} (h : ∀ v σ', Q' v σ' → Q v σ') (kk : zAW l y R pc lc st σ uc us Q') : zAW l y R pc lc st σ uc us Q := by
  intro p e s m args below meth c D dt b b0 H locs ls Qs hC hKK hR hb hS hl hu hF
  exact kk p e s m args below meth c D dt b b0 H locs ls Qs hC hKK hR hb hS hl hu (fun v σ' pc' st' H' locs' uc' us' ls' h1 h2 => hF v σ' pc' st' H' locs' uc' us' ls' h1 (h v σ' h2))
theorem zw_wf (kk : zWF σ → zAW l y R pc lc st σ uc us Q) : zAW l y R pc lc st σ uc us Q := by
  intro p e s m args below meth c D dt b b0 H locs ls Qs hC hKK hR hb hS hl hu hF
  exact kk hR.1 p e s m args below meth c D dt b b0 H locs ls Qs hC hKK hR hb hS hl hu hF
theorem zw_loc {lc' : List (Nat × Value)} (hs : ∀ i v, zlk lc' i = some v → zlk lc i = some v) (kk : zAW l y R pc lc' st σ uc us Q) : zAW l y R pc lc st σ uc us Q := by
  intro p e s m args below meth c D dt b b0 H locs ls Qs hC hKK hR hb hS hl hu hF
  exact kk p e s m args below meth c D dt b b0 H locs ls Qs hC hKK hR hb hS (hl.sub hs) hu hF
theorem zw_room {uc' us' : Nat} (h1 : uc ≤ uc') (h2 : us ≤ us') (h : uc' ≤ R.cells ∧ us' ≤ R.slots) (kk : zAW l y R pc lc st σ uc' us' Q) : zAW l y R pc lc st σ uc us Q := by
  intro p e s m args below meth c D dt b b0 H locs ls Qs hC hKK hR hb hS hl hu hF
  exact W.widen h1 h2 (kk p e s m args below meth c D dt b b0 H locs ls Qs hC hKK hR hb hS hl h hF)
/-- the room's bounds are at hand -/
theorem zw_fit (kk : uc ≤ R.cells ∧ us ≤ R.slots → zAW l y R pc lc st σ uc us Q) : zAW l y R pc lc st σ uc us Q := by
  intro p e s m args below meth c D dt b b0 H locs ls Qs hC hKK hR hb hS hl hu hF
  exact kk hu p e s m args below meth c D dt b b0 H locs ls Qs hC hKK hR hb hS hl hu hF
theorem zw_ret {v : Option Value} (h : zRet4 y pc v st) (hq : Q v σ) : zAW l y R pc lc st σ uc us Q := by
  intro p e s m args below meth c D dt b b0 H locs ls Qs hC hKK hR hb hS hl hu hF
  exact hF v σ pc st H locs uc us ls (Or.inl h) hq hR hS hu
theorem zw_throw {k : UInt32} (h : zThr y pc k) (hr : (uc + 1 ≤ R.cells ∧ us + 6 ≤ R.slots) ∧ 6 ≤ R.frames ∧ 100 ≤ R.locals) (hq : Q (some (.float k)) σ) : zAW l y R pc lc [] σ uc us Q := by
  intro p e s m args below meth c D dt b b0 H locs ls Qs hC hKK hR hb hS hl hu hF
  exact hF _ σ pc [] H locs uc us ls (Or.inr ⟨k, rfl, rfl, hl.1, h, hr⟩) hq hR hS hu
theorem zw_vret (hd : decode y.2.1 pc = .ok (.return_, 1)) (hr : y.2.2.2.1 = none) (hq : Q none σ) : zAW l y R pc lc [] σ uc us Q := zw_ret (Or.inl ⟨rfl, rfl, hr, hd⟩) hq
theorem zw_iret {x : Int32} {ty : FieldType} (hd : decode y.2.1 pc = .ok (.ireturn, 1)) (hr : y.2.2.2.1 = some ty) (hn : narrow ty (.int x) = .int x) (hq : Q (some (.int x)) σ) : zAW l y R pc lc [.int x] σ uc us Q := zw_ret (Or.inr (Or.inl ⟨x, ty, rfl, rfl, hr, hn, hd⟩)) hq
theorem zw_aret {a : Nat} {ty : FieldType} (hd : decode y.2.1 pc = .ok (.areturn, 1)) (hr : y.2.2.2.1 = some ty) (hn : (∃ n, ty = .object n) ∨ ∃ t, ty = .array t) (hq : Q (some (.ref a)) σ) : zAW l y R pc lc [.ref a] σ uc us Q := zw_ret (Or.inr (Or.inr (Or.inl ⟨.ref a, ty, rfl, rfl, Or.inr ⟨a, rfl⟩, hr, hn, hd⟩))) hq
theorem zw_aretN {ty : FieldType} (hd : decode y.2.1 pc = .ok (.areturn, 1)) (hr : y.2.2.2.1 = some ty) (hn : (∃ n, ty = .object n) ∨ ∃ t, ty = .array t) (hq : Q (some .null) σ) : zAW l y R pc lc [.null] σ uc us Q := zw_ret (Or.inr (Or.inr (Or.inl ⟨.null, ty, rfl, rfl, Or.inl rfl, hr, hn, hd⟩))) hq
theorem zw_lret {x : Int64} (hd : decode y.2.1 pc = .ok (.lreturn, 1)) (hr : y.2.2.2.1 = some .long) (hq : Q (some (.long x)) σ) : zAW l y R pc lc [.long x] σ uc us Q := zw_ret (Or.inr (Or.inr (Or.inr (Or.inl ⟨x, rfl, rfl, hr, hd⟩)))) hq
theorem zw_dret {x : UInt64} (hd : decode y.2.1 pc = .ok (.dreturn, 1)) (hr : y.2.2.2.1 = some .double) (hq : Q (some (.double x)) σ) : zAW l y R pc lc [.double x] σ uc us Q := zw_ret (Or.inr (Or.inr (Or.inr (Or.inr ⟨x, rfl, rfl, hr, hd⟩)))) hq
theorem zw_iconst {n : Int} {x : Int32} (hd : decode y.2.1 pc = .ok (.iconst n, 1)) (hx : Int32.ofInt n = x) (kk : zAW l y R (pc + 1) lc (.int x :: st) σ uc us Q) : zAW l y R pc lc (st) σ uc us Q := by
  intro p e s m args below meth c D dt b b0 H locs ls Qs hC hKK hR hb hS hl hu hF
  exact lv_iconst hC.1 hC.2.1 hd hx (kk p e s m args below meth c D dt b b0 H locs ls Qs hC hKK hR hb hS hl hu hF)
theorem zw_bipush {n : Int} {x : Int32} (hd : decode y.2.1 pc = .ok (.bipush n, 2)) (hx : (Int8.ofInt n).toInt32 = x) (kk : zAW l y R (pc + 2) lc (.int x :: st) σ uc us Q) : zAW l y R pc lc (st) σ uc us Q := by
  intro p e s m args below meth c D dt b b0 H locs ls Qs hC hKK hR hb hS hl hu hF
  exact lv_bipush hC.1 hC.2.1 hd hx (kk p e s m args below meth c D dt b b0 H locs ls Qs hC hKK hR hb hS hl hu hF)
theorem zw_sipush {n : Int} {x : Int32} (hd : decode y.2.1 pc = .ok (.sipush n, 3)) (hx : (Int16.ofInt n).toInt32 = x) (kk : zAW l y R (pc + 3) lc (.int x :: st) σ uc us Q) : zAW l y R pc lc (st) σ uc us Q := by
  intro p e s m args below meth c D dt b b0 H locs ls Qs hC hKK hR hb hS hl hu hF
  exact lv_sipush hC.1 hC.2.1 hd hx (kk p e s m args below meth c D dt b b0 H locs ls Qs hC hKK hR hb hS hl hu hF)
theorem zw_ldc {ix : Nat} {x : Int32} (hd : decode y.2.1 pc = .ok (.ldc ix, 2)) (hx : Cond.constant y.1.cls ix x ∈ zT) (kk : zAW l y R (pc + 2) lc (.int x :: st) σ uc us Q) : zAW l y R pc lc (st) σ uc us Q := by
  intro p e s m args below meth c D dt b b0 H locs ls Qs hC hKK hR hb hS hl hu hF
  exact lv_ldc hC.1 hC.2.1 hC.2.2.2.2.1 (hC.2.2.2.2.2.1 _ hx) hd (kk p e s m args below meth c D dt b b0 H locs ls Qs hC hKK hR hb hS hl hu hF)
theorem zw_lconst {n : Fin 2} {x : Int64} (hd : decode y.2.1 pc = .ok (.lconst n, 1)) (hx : Int64.ofNat (n : Nat) = x) (kk : zAW l y R (pc + 1) lc (.long x :: st) σ uc us Q) : zAW l y R pc lc (st) σ uc us Q := by
  intro p e s m args below meth c D dt b b0 H locs ls Qs hC hKK hR hb hS hl hu hF
  exact lv_lconst hC.1 hC.2.1 hd hx (kk p e s m args below meth c D dt b b0 H locs ls Qs hC hKK hR hb hS hl hu hF)
theorem zw_null  (hd : decode y.2.1 pc = .ok (.aconst_null, 1)) (kk : zAW l y R (pc + 1) lc (.null :: st) σ uc us Q) : zAW l y R pc lc (st) σ uc us Q := by
  intro p e s m args below meth c D dt b b0 H locs ls Qs hC hKK hR hb hS hl hu hF
  exact lv_null hC.1 hC.2.1 hd (kk p e s m args below meth c D dt b b0 H locs ls Qs hC hKK hR hb hS hl hu hF)
theorem zw_iload_n {k : Fin 4} {x : Int32} (hd : decode y.2.1 pc = .ok (.iload_n k, 1)) (hl0 : zlk lc (k : Nat) = some (.int x)) (kk : zAW l y R (pc + 1) lc (.int x :: st) σ uc us Q) : zAW l y R pc lc (st) σ uc us Q := by
  intro p e s m args below meth c D dt b b0 H locs ls Qs hC hKK hR hb hS hl hu hF
  exact lv_iload_n hC.1 hC.2.1 hd rfl (hl.2.2 _ _ hl0) (kk p e s m args below meth c D dt b b0 H locs ls Qs hC hKK hR hb hS hl hu hF)
theorem zw_iload {i : Nat} {x : Int32} (hd : decode y.2.1 pc = .ok (.iload i, 2)) (hl0 : zlk lc i = some (.int x)) (kk : zAW l y R (pc + 2) lc (.int x :: st) σ uc us Q) : zAW l y R pc lc (st) σ uc us Q := by
  intro p e s m args below meth c D dt b b0 H locs ls Qs hC hKK hR hb hS hl hu hF
  exact lv_iload hC.1 hC.2.1 hd (hl.2.2 _ _ hl0) (kk p e s m args below meth c D dt b b0 H locs ls Qs hC hKK hR hb hS hl hu hF)
theorem zw_lload_n {k : Fin 4} {x : Int64} (hd : decode y.2.1 pc = .ok (.lload_n k, 1)) (hl0 : zlk lc (k : Nat) = some (.long x)) (kk : zAW l y R (pc + 1) lc (.long x :: st) σ uc us Q) : zAW l y R pc lc (st) σ uc us Q := by
  intro p e s m args below meth c D dt b b0 H locs ls Qs hC hKK hR hb hS hl hu hF
  exact lv_lload_n hC.1 hC.2.1 hd rfl (hl.2.2 _ _ hl0) (kk p e s m args below meth c D dt b b0 H locs ls Qs hC hKK hR hb hS hl hu hF)
theorem zw_lload {i : Nat} {x : Int64} (hd : decode y.2.1 pc = .ok (.lload i, 2)) (hl0 : zlk lc i = some (.long x)) (kk : zAW l y R (pc + 2) lc (.long x :: st) σ uc us Q) : zAW l y R pc lc (st) σ uc us Q := by
  intro p e s m args below meth c D dt b b0 H locs ls Qs hC hKK hR hb hS hl hu hF
  exact lv_lload hC.1 hC.2.1 hd (hl.2.2 _ _ hl0) (kk p e s m args below meth c D dt b b0 H locs ls Qs hC hKK hR hb hS hl hu hF)
theorem zw_aload_n {k : Fin 4} {a : Nat} (hd : decode y.2.1 pc = .ok (.aload_n k, 1)) (hl0 : zlk lc (k : Nat) = some (.ref a)) (kk : zAW l y R (pc + 1) lc (.ref a :: st) σ uc us Q) : zAW l y R pc lc (st) σ uc us Q := by
  intro p e s m args below meth c D dt b b0 H locs ls Qs hC hKK hR hb hS hl hu hF
  exact lv_aload_n hC.1 hC.2.1 hd rfl (hl.2.2 _ _ hl0) (kk p e s m args below meth c D dt b b0 H locs ls Qs hC hKK hR hb hS hl hu hF)
theorem zw_aload {i : Nat} {a : Nat} (hd : decode y.2.1 pc = .ok (.aload i, 2)) (hl0 : zlk lc i = some (.ref a)) (kk : zAW l y R (pc + 2) lc (.ref a :: st) σ uc us Q) : zAW l y R pc lc (st) σ uc us Q := by
  intro p e s m args below meth c D dt b b0 H locs ls Qs hC hKK hR hb hS hl hu hF
  exact lv_aload hC.1 hC.2.1 hd (hl.2.2 _ _ hl0) (kk p e s m args below meth c D dt b b0 H locs ls Qs hC hKK hR hb hS hl hu hF)
theorem zw_aload_nN {k : Fin 4} (hd : decode y.2.1 pc = .ok (.aload_n k, 1)) (hl0 : zlk lc (k : Nat) = some .null) (kk : zAW l y R (pc + 1) lc (.null :: st) σ uc us Q) : zAW l y R pc lc (st) σ uc us Q := by
  intro p e s m args below meth c D dt b b0 H locs ls Qs hC hKK hR hb hS hl hu hF
  exact lv_aload_nN hC.1 hC.2.1 hd rfl (hl.2.2 _ _ hl0) (kk p e s m args below meth c D dt b b0 H locs ls Qs hC hKK hR hb hS hl hu hF)
theorem zw_aloadN {i : Nat} (hd : decode y.2.1 pc = .ok (.aload i, 2)) (hl0 : zlk lc i = some .null) (kk : zAW l y R (pc + 2) lc (.null :: st) σ uc us Q) : zAW l y R pc lc (st) σ uc us Q := by
  intro p e s m args below meth c D dt b b0 H locs ls Qs hC hKK hR hb hS hl hu hF
  exact lv_aloadN hC.1 hC.2.1 hd (hl.2.2 _ _ hl0) (kk p e s m args below meth c D dt b b0 H locs ls Qs hC hKK hR hb hS hl hu hF)
theorem zw_iadd {x z : Int32} (hd : decode y.2.1 pc = .ok (.iadd, 1)) (kk : zAW l y R (pc + 1) lc (.int (x + z) :: st) σ uc us Q) : zAW l y R pc lc (.int z :: .int x :: st) σ uc us Q := by
  intro p e s m args below meth c D dt b b0 H locs ls Qs hC hKK hR hb hS hl hu hF
  exact lv_iadd hC.1 hC.2.1 hd (kk p e s m args below meth c D dt b b0 H locs ls Qs hC hKK hR hb hS hl hu hF)
theorem zw_isub {x z : Int32} (hd : decode y.2.1 pc = .ok (.isub, 1)) (kk : zAW l y R (pc + 1) lc (.int (x - z) :: st) σ uc us Q) : zAW l y R pc lc (.int z :: .int x :: st) σ uc us Q := by
  intro p e s m args below meth c D dt b b0 H locs ls Qs hC hKK hR hb hS hl hu hF
  exact lv_isub hC.1 hC.2.1 hd (kk p e s m args below meth c D dt b b0 H locs ls Qs hC hKK hR hb hS hl hu hF)
theorem zw_imul {x z : Int32} (hd : decode y.2.1 pc = .ok (.imul, 1)) (kk : zAW l y R (pc + 1) lc (.int (x * z) :: st) σ uc us Q) : zAW l y R pc lc (.int z :: .int x :: st) σ uc us Q := by
  intro p e s m args below meth c D dt b b0 H locs ls Qs hC hKK hR hb hS hl hu hF
  exact lv_imul hC.1 hC.2.1 hd (kk p e s m args below meth c D dt b b0 H locs ls Qs hC hKK hR hb hS hl hu hF)
theorem zw_iand {x z : Int32} (hd : decode y.2.1 pc = .ok (.iand, 1)) (kk : zAW l y R (pc + 1) lc (.int (x &&& z) :: st) σ uc us Q) : zAW l y R pc lc (.int z :: .int x :: st) σ uc us Q := by
  intro p e s m args below meth c D dt b b0 H locs ls Qs hC hKK hR hb hS hl hu hF
  exact lv_iand hC.1 hC.2.1 hd (kk p e s m args below meth c D dt b b0 H locs ls Qs hC hKK hR hb hS hl hu hF)
theorem zw_ior {x z : Int32} (hd : decode y.2.1 pc = .ok (.ior, 1)) (kk : zAW l y R (pc + 1) lc (.int (x ||| z) :: st) σ uc us Q) : zAW l y R pc lc (.int z :: .int x :: st) σ uc us Q := by
  intro p e s m args below meth c D dt b b0 H locs ls Qs hC hKK hR hb hS hl hu hF
  exact lv_ior hC.1 hC.2.1 hd (kk p e s m args below meth c D dt b b0 H locs ls Qs hC hKK hR hb hS hl hu hF)
theorem zw_ixor {x z : Int32} (hd : decode y.2.1 pc = .ok (.ixor, 1)) (kk : zAW l y R (pc + 1) lc (.int (x ^^^ z) :: st) σ uc us Q) : zAW l y R pc lc (.int z :: .int x :: st) σ uc us Q := by
  intro p e s m args below meth c D dt b b0 H locs ls Qs hC hKK hR hb hS hl hu hF
  exact lv_ixor hC.1 hC.2.1 hd (kk p e s m args below meth c D dt b b0 H locs ls Qs hC hKK hR hb hS hl hu hF)
theorem zw_ishl {x z : Int32} (hd : decode y.2.1 pc = .ok (.ishl, 1)) (kk : zAW l y R (pc + 1) lc (.int (x <<< (z &&& 31)) :: st) σ uc us Q) : zAW l y R pc lc (.int z :: .int x :: st) σ uc us Q := by
  intro p e s m args below meth c D dt b b0 H locs ls Qs hC hKK hR hb hS hl hu hF
  exact lv_ishl hC.1 hC.2.1 hd (kk p e s m args below meth c D dt b b0 H locs ls Qs hC hKK hR hb hS hl hu hF)
theorem zw_ishr {x z : Int32} (hd : decode y.2.1 pc = .ok (.ishr, 1)) (kk : zAW l y R (pc + 1) lc (.int (x >>> (z &&& 31)) :: st) σ uc us Q) : zAW l y R pc lc (.int z :: .int x :: st) σ uc us Q := by
  intro p e s m args below meth c D dt b b0 H locs ls Qs hC hKK hR hb hS hl hu hF
  exact lv_ishr hC.1 hC.2.1 hd (kk p e s m args below meth c D dt b b0 H locs ls Qs hC hKK hR hb hS hl hu hF)
theorem zw_iushr {x z : Int32} (hd : decode y.2.1 pc = .ok (.iushr, 1)) (kk : zAW l y R (pc + 1) lc (.int (x.toUInt32 >>> (z.toUInt32 &&& Int32.toUInt32 31)).toInt32 :: st) σ uc us Q) : zAW l y R pc lc (.int z :: .int x :: st) σ uc us Q := by
  intro p e s m args below meth c D dt b b0 H locs ls Qs hC hKK hR hb hS hl hu hF
  exact lv_iushr hC.1 hC.2.1 hd rfl (kk p e s m args below meth c D dt b b0 H locs ls Qs hC hKK hR hb hS hl hu hF)
theorem zw_idiv {x z : Int32} (hd : decode y.2.1 pc = .ok (.idiv, 1)) (hz : ¬ z = 0) (kk : zAW l y R (pc + 1) lc (.int (x / z) :: st) σ uc us Q) : zAW l y R pc lc (.int z :: .int x :: st) σ uc us Q := by
  intro p e s m args below meth c D dt b b0 H locs ls Qs hC hKK hR hb hS hl hu hF
  exact lv_idiv hC.1 hC.2.1 hd hz (kk p e s m args below meth c D dt b b0 H locs ls Qs hC hKK hR hb hS hl hu hF)
theorem zw_irem {x z : Int32} (hd : decode y.2.1 pc = .ok (.irem, 1)) (hz : ¬ z = 0) (kk : zAW l y R (pc + 1) lc (.int (x - x / z * z) :: st) σ uc us Q) : zAW l y R pc lc (.int z :: .int x :: st) σ uc us Q := by
  intro p e s m args below meth c D dt b b0 H locs ls Qs hC hKK hR hb hS hl hu hF
  exact lv_irem hC.1 hC.2.1 hd hz (kk p e s m args below meth c D dt b b0 H locs ls Qs hC hKK hR hb hS hl hu hF)
theorem zw_ineg {x : Int32} (hd : decode y.2.1 pc = .ok (.ineg, 1)) (kk : zAW l y R (pc + 1) lc (.int (-x) :: st) σ uc us Q) : zAW l y R pc lc (.int x :: st) σ uc us Q := by
  intro p e s m args below meth c D dt b b0 H locs ls Qs hC hKK hR hb hS hl hu hF
  exact lv_ineg hC.1 hC.2.1 hd (kk p e s m args below meth c D dt b b0 H locs ls Qs hC hKK hR hb hS hl hu hF)
theorem zw_i2l {x : Int32} (hd : decode y.2.1 pc = .ok (.i2l, 1)) (kk : zAW l y R (pc + 1) lc (.long x.toInt64 :: st) σ uc us Q) : zAW l y R pc lc (.int x :: st) σ uc us Q := by
  intro p e s m args below meth c D dt b b0 H locs ls Qs hC hKK hR hb hS hl hu hF
  exact lv_i2l hC.1 hC.2.1 hd rfl (kk p e s m args below meth c D dt b b0 H locs ls Qs hC hKK hR hb hS hl hu hF)
theorem zw_ladd {x z : Int64} (hd : decode y.2.1 pc = .ok (.ladd, 1)) (kk : zAW l y R (pc + 1) lc (.long (x + z) :: st) σ uc us Q) : zAW l y R pc lc (.long z :: .long x :: st) σ uc us Q := by
  intro p e s m args below meth c D dt b b0 H locs ls Qs hC hKK hR hb hS hl hu hF
  exact lv_ladd hC.1 hC.2.1 hd (kk p e s m args below meth c D dt b b0 H locs ls Qs hC hKK hR hb hS hl hu hF)
theorem zw_lsub {x z : Int64} (hd : decode y.2.1 pc = .ok (.lsub, 1)) (kk : zAW l y R (pc + 1) lc (.long (x - z) :: st) σ uc us Q) : zAW l y R pc lc (.long z :: .long x :: st) σ uc us Q := by
  intro p e s m args below meth c D dt b b0 H locs ls Qs hC hKK hR hb hS hl hu hF
  exact lv_lsub hC.1 hC.2.1 hd (kk p e s m args below meth c D dt b b0 H locs ls Qs hC hKK hR hb hS hl hu hF)
theorem zw_lmul {x z : Int64} (hd : decode y.2.1 pc = .ok (.lmul, 1)) (kk : zAW l y R (pc + 1) lc (.long (x * z) :: st) σ uc us Q) : zAW l y R pc lc (.long z :: .long x :: st) σ uc us Q := by
  intro p e s m args below meth c D dt b b0 H locs ls Qs hC hKK hR hb hS hl hu hF
  exact lv_lmul hC.1 hC.2.1 hd (kk p e s m args below meth c D dt b b0 H locs ls Qs hC hKK hR hb hS hl hu hF)
theorem zw_land {x z : Int64} (hd : decode y.2.1 pc = .ok (.land, 1)) (kk : zAW l y R (pc + 1) lc (.long (x &&& z) :: st) σ uc us Q) : zAW l y R pc lc (.long z :: .long x :: st) σ uc us Q := by
  intro p e s m args below meth c D dt b b0 H locs ls Qs hC hKK hR hb hS hl hu hF
  exact lv_land hC.1 hC.2.1 hd (kk p e s m args below meth c D dt b b0 H locs ls Qs hC hKK hR hb hS hl hu hF)
theorem zw_lor {x z : Int64} (hd : decode y.2.1 pc = .ok (.lor, 1)) (kk : zAW l y R (pc + 1) lc (.long (x ||| z) :: st) σ uc us Q) : zAW l y R pc lc (.long z :: .long x :: st) σ uc us Q := by
  intro p e s m args below meth c D dt b b0 H locs ls Qs hC hKK hR hb hS hl hu hF
  exact lv_lor hC.1 hC.2.1 hd (kk p e s m args below meth c D dt b b0 H locs ls Qs hC hKK hR hb hS hl hu hF)
theorem zw_lcmp {x z : Int64} (hd : decode y.2.1 pc = .ok (.lcmp, 1)) (kk : zAW l y R (pc + 1) lc (.int (lg_cmp x z) :: st) σ uc us Q) : zAW l y R pc lc (.long z :: .long x :: st) σ uc us Q := by
  intro p e s m args below meth c D dt b b0 H locs ls Qs hC hKK hR hb hS hl hu hF
  exact W.lcmp hC.1 hC.2.1 hd (kk p e s m args below meth c D dt b b0 H locs ls Qs hC hKK hR hb hS hl hu hF)
theorem zw_dup {v : Value} (hd : decode y.2.1 pc = .ok (.dup, 1)) (hv : v.category = 1) (kk : zAW l y R (pc + 1) lc (v :: v :: st) σ uc us Q) : zAW l y R pc lc (v :: st) σ uc us Q := by
  intro p e s m args below meth c D dt b b0 H locs ls Qs hC hKK hR hb hS hl hu hF
  exact lv_dup hC.1 hC.2.1 hd (by rw [zv_cat]; exact hv) (kk p e s m args below meth c D dt b b0 H locs ls Qs hC hKK hR hb hS hl hu hF)
theorem zw_pop {v : Value} (hd : decode y.2.1 pc = .ok (.pop, 1)) (hv : v.category = 1) (kk : zAW l y R (pc + 1) lc (st) σ uc us Q) : zAW l y R pc lc (v :: st) σ uc us Q := by
  intro p e s m args below meth c D dt b b0 H locs ls Qs hC hKK hR hb hS hl hu hF
  exact lv_pop hC.1 hC.2.1 hd (by rw [zv_cat]; exact hv) (kk p e s m args below meth c D dt b b0 H locs ls Qs hC hKK hR hb hS hl hu hF)
theorem zw_dup2 {v w : Value} (hd : decode y.2.1 pc = .ok (.dup2, 1)) (hv : v.category = 1) (hw : w.category = 1) (kk : zAW l y R (pc + 1) lc (v :: w :: v :: w :: st) σ uc us Q) : zAW l y R pc lc (v :: w :: st) σ uc us Q := by
  intro p e s m args below meth c D dt b b0 H locs ls Qs hC hKK hR hb hS hl hu hF
  exact lv_dup2_11 hC.1 hC.2.1 hd (by rw [zv_cat]; exact hv) (by rw [zv_cat]; exact hw) (kk p e s m args below meth c D dt b b0 H locs ls Qs hC hKK hR hb hS hl hu hF)
theorem zw_goto {off : Int} {tgt : Nat} (hd : decode y.2.1 pc = .ok (.goto off, 3)) (ht : (pc : Int) + off = (tgt : Int)) (kk : zAW l y R tgt lc st σ uc us Q) : zAW l y R pc lc st σ uc us Q := by
  intro p e s m args below meth c D dt b b0 H locs ls Qs hC hKK hR hb hS hl hu hF
  exact lv_goto hC.1 hC.2.1 hd ht (kk p e s m args below meth c D dt b b0 H locs ls Qs hC hKK hR hb hS hl hu hF)
theorem zw_ifeq {x : Int32} {off : Int} {tgt : Nat} (hd : decode y.2.1 pc = .ok (.ifCond .eq off, 3)) (ht : (pc : Int) + off = (tgt : Int)) (kt : x = 0 → zAW l y R tgt lc st σ uc us Q) (kf : ¬ (x = 0) → zAW l y R (pc + 3) lc st σ uc us Q) : zAW l y R pc lc (.int x :: st) σ uc us Q := by
  intro p e s m args below meth c D dt b b0 H locs ls Qs hC hKK hR hb hS hl hu hF
  exact lv_if_eq hC.1 hC.2.1 hd ht (fun h => kt h p e s m args below meth c D dt b b0 H locs ls Qs hC hKK hR hb hS hl hu hF) (fun h => kf h p e s m args below meth c D dt b b0 H locs ls Qs hC hKK hR hb hS hl hu hF)
theorem zw_icmpeq {x z : Int32} {off : Int} {tgt : Nat} (hd : decode y.2.1 pc = .ok (.if_icmp .eq off, 3)) (ht : (pc : Int) + off = (tgt : Int)) (kt : x = z → zAW l y R tgt lc st σ uc us Q) (kf : ¬ (x = z) → zAW l y R (pc + 3) lc st σ uc us Q) : zAW l y R pc lc (.int z :: .int x :: st) σ uc us Q := by
  intro p e s m args below meth c D dt b b0 H locs ls Qs hC hKK hR hb hS hl hu hF
  exact lv_icmp_eq hC.1 hC.2.1 hd ht (fun h => kt h p e s m args below meth c D dt b b0 H locs ls Qs hC hKK hR hb hS hl hu hF) (fun h => kf h p e s m args below meth c D dt b b0 H locs ls Qs hC hKK hR hb hS hl hu hF)
theorem zw_ifne {x : Int32} {off : Int} {tgt : Nat} (hd : decode y.2.1 pc = .ok (.ifCond .ne off, 3)) (ht : (pc : Int) + off = (tgt : Int)) (kt : ¬ x = 0 → zAW l y R tgt lc st σ uc us Q) (kf : x = 0 → zAW l y R (pc + 3) lc st σ uc us Q) : zAW l y R pc lc (.int x :: st) σ uc us Q := by
  intro p e s m args below meth c D dt b b0 H locs ls Qs hC hKK hR hb hS hl hu hF
  exact lv_if_ne hC.1 hC.2.1 hd ht (fun h => kt h p e s m args below meth c D dt b b0 H locs ls Qs hC hKK hR hb hS hl hu hF) (fun h => kf h p e s m args below meth c D dt b b0 H locs ls Qs hC hKK hR hb hS hl hu hF)
theorem zw_icmpne {x z : Int32} {off : Int} {tgt : Nat} (hd : decode y.2.1 pc = .ok (.if_icmp .ne off, 3)) (ht : (pc : Int) + off = (tgt : Int)) (kt : ¬ x = z → zAW l y R tgt lc st σ uc us Q) (kf : x = z → zAW l y R (pc + 3) lc st σ uc us Q) : zAW l y R pc lc (.int z :: .int x :: st) σ uc us Q := by
  intro p e s m args below meth c D dt b b0 H locs ls Qs hC hKK hR hb hS hl hu hF
  exact lv_icmp_ne hC.1 hC.2.1 hd ht (fun h => kt h p e s m args below meth c D dt b b0 H locs ls Qs hC hKK hR hb hS hl hu hF) (fun h => kf h p e s m args below meth c D dt b b0 H locs ls Qs hC hKK hR hb hS hl hu hF)
theorem zw_iflt {x : Int32} {off : Int} {tgt : Nat} (hd : decode y.2.1 pc = .ok (.ifCond .lt off, 3)) (ht : (pc : Int) + off = (tgt : Int)) (kt : x < 0 → zAW l y R tgt lc st σ uc us Q) (kf : ¬ (x < 0) → zAW l y R (pc + 3) lc st σ uc us Q) : zAW l y R pc lc (.int x :: st) σ uc us Q := by
  intro p e s m args below meth c D dt b b0 H locs ls Qs hC hKK hR hb hS hl hu hF
  exact lv_if_lt hC.1 hC.2.1 hd ht (fun h => kt h p e s m args below meth c D dt b b0 H locs ls Qs hC hKK hR hb hS hl hu hF) (fun h => kf h p e s m args below meth c D dt b b0 H locs ls Qs hC hKK hR hb hS hl hu hF)
theorem zw_icmplt {x z : Int32} {off : Int} {tgt : Nat} (hd : decode y.2.1 pc = .ok (.if_icmp .lt off, 3)) (ht : (pc : Int) + off = (tgt : Int)) (kt : x < z → zAW l y R tgt lc st σ uc us Q) (kf : ¬ (x < z) → zAW l y R (pc + 3) lc st σ uc us Q) : zAW l y R pc lc (.int z :: .int x :: st) σ uc us Q := by
  intro p e s m args below meth c D dt b b0 H locs ls Qs hC hKK hR hb hS hl hu hF
  exact lv_icmp_lt hC.1 hC.2.1 hd ht (fun h => kt h p e s m args below meth c D dt b b0 H locs ls Qs hC hKK hR hb hS hl hu hF) (fun h => kf h p e s m args below meth c D dt b b0 H locs ls Qs hC hKK hR hb hS hl hu hF)
theorem zw_ifge {x : Int32} {off : Int} {tgt : Nat} (hd : decode y.2.1 pc = .ok (.ifCond .ge off, 3)) (ht : (pc : Int) + off = (tgt : Int)) (kt : 0 ≤ x → zAW l y R tgt lc st σ uc us Q) (kf : ¬ (0 ≤ x) → zAW l y R (pc + 3) lc st σ uc us Q) : zAW l y R pc lc (.int x :: st) σ uc us Q := by
  intro p e s m args below meth c D dt b b0 H locs ls Qs hC hKK hR hb hS hl hu hF
  exact lv_if_ge hC.1 hC.2.1 hd ht (fun h => kt h p e s m args below meth c D dt b b0 H locs ls Qs hC hKK hR hb hS hl hu hF) (fun h => kf h p e s m args below meth c D dt b b0 H locs ls Qs hC hKK hR hb hS hl hu hF)
theorem zw_icmpge {x z : Int32} {off : Int} {tgt : Nat} (hd : decode y.2.1 pc = .ok (.if_icmp .ge off, 3)) (ht : (pc : Int) + off = (tgt : Int)) (kt : z ≤ x → zAW l y R tgt lc st σ uc us Q) (kf : ¬ (z ≤ x) → zAW l y R (pc + 3) lc st σ uc us Q) : zAW l y R pc lc (.int z :: .int x :: st) σ uc us Q := by
  intro p e s m args below meth c D dt b b0 H locs ls Qs hC hKK hR hb hS hl hu hF
  exact lv_icmp_ge hC.1 hC.2.1 hd ht (fun h => kt h p e s m args below meth c D dt b b0 H locs ls Qs hC hKK hR hb hS hl hu hF) (fun h => kf h p e s m args below meth c D dt b b0 H locs ls Qs hC hKK hR hb hS hl hu hF)
theorem zw_ifgt {x : Int32} {off : Int} {tgt : Nat} (hd : decode y.2.1 pc = .ok (.ifCond .gt off, 3)) (ht : (pc : Int) + off = (tgt : Int)) (kt : 0 < x → zAW l y R tgt lc st σ uc us Q) (kf : ¬ (0 < x) → zAW l y R (pc + 3) lc st σ uc us Q) : zAW l y R pc lc (.int x :: st) σ uc us Q := by
  intro p e s m args below meth c D dt b b0 H locs ls Qs hC hKK hR hb hS hl hu hF
  exact lv_if_gt hC.1 hC.2.1 hd ht (fun h => kt h p e s m args below meth c D dt b b0 H locs ls Qs hC hKK hR hb hS hl hu hF) (fun h => kf h p e s m args below meth c D dt b b0 H locs ls Qs hC hKK hR hb hS hl hu hF)
theorem zw_icmpgt {x z : Int32} {off : Int} {tgt : Nat} (hd : decode y.2.1 pc = .ok (.if_icmp .gt off, 3)) (ht : (pc : Int) + off = (tgt : Int)) (kt : z < x → zAW l y R tgt lc st σ uc us Q) (kf : ¬ (z < x) → zAW l y R (pc + 3) lc st σ uc us Q) : zAW l y R pc lc (.int z :: .int x :: st) σ uc us Q := by
  intro p e s m args below meth c D dt b b0 H locs ls Qs hC hKK hR hb hS hl hu hF
  exact lv_icmp_gt hC.1 hC.2.1 hd ht (fun h => kt h p e s m args below meth c D dt b b0 H locs ls Qs hC hKK hR hb hS hl hu hF) (fun h => kf h p e s m args below meth c D dt b b0 H locs ls Qs hC hKK hR hb hS hl hu hF)
theorem zw_ifle {x : Int32} {off : Int} {tgt : Nat} (hd : decode y.2.1 pc = .ok (.ifCond .le off, 3)) (ht : (pc : Int) + off = (tgt : Int)) (kt : x ≤ 0 → zAW l y R tgt lc st σ uc us Q) (kf : ¬ (x ≤ 0) → zAW l y R (pc + 3) lc st σ uc us Q) : zAW l y R pc lc (.int x :: st) σ uc us Q := by
  intro p e s m args below meth c D dt b b0 H locs ls Qs hC hKK hR hb hS hl hu hF
  exact lv_if_le hC.1 hC.2.1 hd ht (fun h => kt h p e s m args below meth c D dt b b0 H locs ls Qs hC hKK hR hb hS hl hu hF) (fun h => kf h p e s m args below meth c D dt b b0 H locs ls Qs hC hKK hR hb hS hl hu hF)
theorem zw_icmple {x z : Int32} {off : Int} {tgt : Nat} (hd : decode y.2.1 pc = .ok (.if_icmp .le off, 3)) (ht : (pc : Int) + off = (tgt : Int)) (kt : x ≤ z → zAW l y R tgt lc st σ uc us Q) (kf : ¬ (x ≤ z) → zAW l y R (pc + 3) lc st σ uc us Q) : zAW l y R pc lc (.int z :: .int x :: st) σ uc us Q := by
  intro p e s m args below meth c D dt b b0 H locs ls Qs hC hKK hR hb hS hl hu hF
  exact lv_icmp_le hC.1 hC.2.1 hd ht (fun h => kt h p e s m args below meth c D dt b b0 H locs ls Qs hC hKK hR hb hS hl hu hF) (fun h => kf h p e s m args below meth c D dt b b0 H locs ls Qs hC hKK hR hb hS hl hu hF)
theorem zw_ifnonnull {a : Nat} {off : Int} {tgt : Nat} (hd : decode y.2.1 pc = .ok (.ifnonnull off, 3)) (ht : (pc : Int) + off = (tgt : Int)) (kk : zAW l y R tgt lc st σ uc us Q) : zAW l y R pc lc (.ref a :: st) σ uc us Q := by
  intro p e s m args below meth c D dt b b0 H locs ls Qs hC hKK hR hb hS hl hu hF
  exact lv_ifnonnull hC.1 hC.2.1 hd ht (kk p e s m args below meth c D dt b b0 H locs ls Qs hC hKK hR hb hS hl hu hF)
theorem zw_ifnull {a : Nat} {off : Int} (hd : decode y.2.1 pc = .ok (.ifnull off, 3)) (kk : zAW l y R (pc + 3) lc st σ uc us Q) : zAW l y R pc lc (.ref a :: st) σ uc us Q := by
  intro p e s m args below meth c D dt b b0 H locs ls Qs hC hKK hR hb hS hl hu hF
  exact lv_ifnull hC.1 hC.2.1 hd (kk p e s m args below meth c D dt b b0 H locs ls Qs hC hKK hR hb hS hl hu hF)
theorem zw_ifnullN {off : Int} {tgt : Nat} (hd : decode y.2.1 pc = .ok (.ifnull off, 3)) (ht : (pc : Int) + off = (tgt : Int)) (kk : zAW l y R tgt lc st σ uc us Q) : zAW l y R pc lc (.null :: st) σ uc us Q := by
  intro p e s m args below meth c D dt b b0 H locs ls Qs hC hKK hR hb hS hl hu hF
  exact lv_ifnullN hC.1 hC.2.1 hd ht (kk p e s m args below meth c D dt b b0 H locs ls Qs hC hKK hR hb hS hl hu hF)
theorem zw_ifnonnullN {off : Int} (hd : decode y.2.1 pc = .ok (.ifnonnull off, 3)) (kk : zAW l y R (pc + 3) lc st σ uc us Q) : zAW l y R pc lc (.null :: st) σ uc us Q := by
  intro p e s m args below meth c D dt b b0 H locs ls Qs hC hKK hR hb hS hl hu hF
  exact lv_ifnonnullN hC.1 hC.2.1 hd (kk p e s m args below meth c D dt b b0 H locs ls Qs hC hKK hR hb hS hl hu hF)
theorem zw_tableOut {dflt lo hi : Int} {offs : Array Int} {len : Nat} {x : Int32} {tgt : Nat} (hd : decode y.2.1 pc = .ok (.tableswitch dflt lo hi offs, len)) (h : x.toInt < lo ∨ hi < x.toInt) (ht : (pc : Int) + dflt = (tgt : Int)) (kk : zAW l y R tgt lc st σ uc us Q) : zAW l y R pc lc (.int x :: st) σ uc us Q := by
  intro p e s m args below meth c D dt b b0 H locs ls Qs hC hKK hR hb hS hl hu hF
  exact lv_tableOut hC.1 hC.2.1 hd h ht (kk p e s m args below meth c D dt b b0 H locs ls Qs hC hKK hR hb hS hl hu hF)
theorem zw_tableIn {dflt lo hi : Int} {offs : Array Int} {len : Nat} {x : Int32} {off : Int} {tgt : Nat} (hd : decode y.2.1 pc = .ok (.tableswitch dflt lo hi offs, len)) (h1 : ¬ x.toInt < lo) (h2 : ¬ hi < x.toInt) (ho : offs[(x.toInt - lo).toNat]? = some off) (ht : (pc : Int) + off = (tgt : Int)) (kk : zAW l y R tgt lc st σ uc us Q) : zAW l y R pc lc (.int x :: st) σ uc us Q := by
  intro p e s m args below meth c D dt b b0 H locs ls Qs hC hKK hR hb hS hl hu hF
  exact lv_tableIn hC.1 hC.2.1 hd h1 h2 ho ht (kk p e s m args below meth c D dt b b0 H locs ls Qs hC hKK hR hb hS hl hu hF)
end ZR
/-! stores into locals -/
def zLL (nL : Nat) (g : Nat → Nat) (lc : List (Nat × Value)) : List (Nat × Value) := (List.range nL).filterMap (fun i => (zlk lc i).map (fun v => (i, zv g v)))
theorem zLL_mem {nL : Nat} {g : Nat → Nat} {lc : List (Nat × Value)} {q : Nat × Value} : q ∈ zLL nL g lc ↔ q.1 < nL ∧ ∃ v, zlk lc q.1 = some v ∧ q.2 = zv g v := by
  unfold zLL
  rw [List.mem_filterMap]
  constructor
  · rintro ⟨i, hi, h⟩
    cases hz : zlk lc i with
    | none => rw [hz] at h; cases h
    | some v =>
      rw [hz] at h
      cases h
      exact ⟨List.mem_range.mp hi, v, hz, rfl⟩
  · rintro ⟨h1, v, h2, h3⟩
    exact ⟨q.1, List.mem_range.mpr h1, by rw [h2]; show some (q.1, zv g v) = some q; rw [← h3]⟩
theorem zHas.toL {ls : Array Slot} {nL : Nat} {g : Nat → Nat} {lc : List (Nat × Value)} (h : zHas ls nL g lc) : lv_has ls nL (zLL nL g lc) := ⟨h.1, h.2.1, fun q hq => by
  obtain ⟨-, v, h1, h2⟩ := zLL_mem.mp hq
  rw [h2]
  exact h.2.2 _ _ h1⟩
theorem zHas.place {ls : Array Slot} {nL : Nat} {g : Nat → Nat} {lc : List (Nat × Value)} (h : zHas ls nL g lc) {i : Nat} {v : Value} (hv : zlk lc i = some v) : ∃ k : Nat, (zLL nL g lc)[k]? = some (i, zv g v) := by
  have hi : i < nL := by
    have := h.2.2 i v hv
    rw [← h.1]
    exact lv_lt this
  exact List.getElem?_of_mem (zLL_mem.mpr ⟨hi, v, hv, rfl⟩)
theorem zHas.st {ls ls' : Array Slot} {nL : Nat} {g : Nat → Nat} {lc : List (Nat × Value)} {i : Nat} {v w : Value} (h : zHas ls nL g lc) (hw : w = zv g v) (h' : lv_has ls' nL ((i, w) :: (zLL nL g lc).filter (fun q => !(q.1 == i) && !(q.1 + 1 == i && q.2.category == 2)))) (ho : zlo lc i = true) : zHas ls' nL g ((i, v) :: lc) := by
  refine ⟨h'.1, h'.2.1, fun j u hu => ?_⟩
  unfold zlk at hu
  split at hu
  · rename_i e
    have e : i = j := e
    subst e
    cases hu
    rw [← hw]
    exact h'.2.2 (i, w) List.mem_cons_self
  · rename_i e
    have e : ¬ i = j := e
    have hj : j < nL := by rw [← h.1]; exact lv_lt (h.2.2 j u hu)
    refine h'.2.2 (j, zv g u) (List.mem_cons_of_mem _ (List.mem_filter.mpr ⟨zLL_mem.mpr ⟨hj, u, hu, rfl⟩, ?_⟩))
    have n1 : (j == i) = false := by simp; omega
    by_cases hji : j + 1 = i
    · subst hji
      have hc : (u.category == 1) = true := by
        have ho2 : (match zlk lc j with
          | some v => v.category == 1
          | none => true) = true := ho
        rw [hu] at ho2
        exact ho2
      have hc2 : ((zv g u).category == 2) = false := by
        rw [zv_cat]
        have : u.category = 1 := by simpa using hc
        rw [this]; rfl
      simp [n1, hc2]
    · have n2 : (j + 1 == i) = false := by simp; omega
      simp [n1, n2]
section ZR
variable {l : Launch} {y : zM} {R : Room} {pc : Nat} {lc : List (Nat × Value)} {st : List Value} {σ : zS} {uc us : Nat} {Q : Option Value → zS → Prop}
theorem zw_istore_n {k : Fin 4} {x : Int32} (hd : decode y.2.1 pc = .ok (.istore_n k, 1)) (hn : (k : Nat) < y.2.2.1) (ho : zlo lc (k : Nat) = true) (kk : zAW l y R (pc + 1) (((k : Nat), .int x) :: lc) st σ uc us Q) : zAW l y R pc lc (.int x :: st) σ uc us Q := by
  intro p e s m args below meth c D dt b b0 H locs ls Qs hC hKK hR hb hS hl hu hF
  exact lv_istore_n hC.1 hC.2.1 hd rfl hl.toL hn rfl (fun ls' hl' => kk p e s m args below meth c D dt b b0 H locs ls' Qs hC hKK hR hb hS (hl.st rfl hl' ho) hu hF)
theorem zw_istore {i : Nat} {x : Int32} (hd : decode y.2.1 pc = .ok (.istore i, 2)) (hn : i < y.2.2.1) (ho : zlo lc i = true) (kk : zAW l y R (pc + 2) ((i, .int x) :: lc) st σ uc us Q) : zAW l y R pc lc (.int x :: st) σ uc us Q := by
  intro p e s m args below meth c D dt b b0 H locs ls Qs hC hKK hR hb hS hl hu hF
  exact lv_istore hC.1 hC.2.1 hd hl.toL hn rfl (fun ls' hl' => kk p e s m args below meth c D dt b b0 H locs ls' Qs hC hKK hR hb hS (hl.st rfl hl' ho) hu hF)
theorem zw_astore_n {k : Fin 4} {a : Nat} (hd : decode y.2.1 pc = .ok (.astore_n k, 1)) (hn : (k : Nat) < y.2.2.1) (ho : zlo lc (k : Nat) = true) (kk : zAW l y R (pc + 1) (((k : Nat), .ref a) :: lc) st σ uc us Q) : zAW l y R pc lc (.ref a :: st) σ uc us Q := by
  intro p e s m args below meth c D dt b b0 H locs ls Qs hC hKK hR hb hS hl hu hF
  exact lv_astore_n hC.1 hC.2.1 hd rfl hl.toL hn rfl (fun ls' hl' => kk p e s m args below meth c D dt b b0 H locs ls' Qs hC hKK hR hb hS (hl.st rfl hl' ho) hu hF)
theorem zw_astore {i : Nat} {a : Nat} (hd : decode y.2.1 pc = .ok (.astore i, 2)) (hn : i < y.2.2.1) (ho : zlo lc i = true) (kk : zAW l y R (pc + 2) ((i, .ref a) :: lc) st σ uc us Q) : zAW l y R pc lc (.ref a :: st) σ uc us Q := by
  intro p e s m args below meth c D dt b b0 H locs ls Qs hC hKK hR hb hS hl hu hF
  exact lv_astore hC.1 hC.2.1 hd hl.toL hn rfl (fun ls' hl' => kk p e s m args below meth c D dt b b0 H locs ls' Qs hC hKK hR hb hS (hl.st rfl hl' ho) hu hF)
theorem zw_astore_nN {k : Fin 4} (hd : decode y.2.1 pc = .ok (.astore_n k, 1)) (hn : (k : Nat) < y.2.2.1) (ho : zlo lc (k : Nat) = true) (kk : zAW l y R (pc + 1) (((k : Nat), .null) :: lc) st σ uc us Q) : zAW l y R pc lc (.null :: st) σ uc us Q := by
  intro p e s m args below meth c D dt b b0 H locs ls Qs hC hKK hR hb hS hl hu hF
  exact lv_astore_nN hC.1 hC.2.1 hd rfl hl.toL hn rfl (fun ls' hl' => kk p e s m args below meth c D dt b b0 H locs ls' Qs hC hKK hR hb hS (hl.st rfl hl' ho) hu hF)
theorem zw_astoreN {i : Nat} (hd : decode y.2.1 pc = .ok (.astore i, 2)) (hn : i < y.2.2.1) (ho : zlo lc i = true) (kk : zAW l y R (pc + 2) ((i, .null) :: lc) st σ uc us Q) : zAW l y R pc lc (.null :: st) σ uc us Q := by
  intro p e s m args below meth c D dt b b0 H locs ls Qs hC hKK hR hb hS hl hu hF
  exact lv_astoreN hC.1 hC.2.1 hd hl.toL hn rfl (fun ls' hl' => kk p e s m args below meth c D dt b b0 H locs ls' Qs hC hKK hR hb hS (hl.st rfl hl' ho) hu hF)
theorem zw_iinc {i : Nat} {n : Int} {x : Int32} (hd : decode y.2.1 pc = .ok (.iinc i n, 3)) (hx : zlk lc i = some (.int x)) (hn : i < y.2.2.1) (ho : zlo lc i = true) (kk : zAW l y R (pc + 3) ((i, .int (x + Int32.ofInt n)) :: lc) st σ uc us Q) : zAW l y R pc lc st σ uc us Q := by
  intro p e s m args below meth c D dt b b0 H locs ls Qs hC hKK hR hb hS hl hu hF
  obtain ⟨k, hk⟩ := hl.place hx
  exact lv_iinc hC.1 hC.2.1 hd hl.toL hk rfl hn rfl (fun ls' hl' => kk p e s m args below meth c D dt b b0 H locs ls' Qs hC hKK hR hb hS (hl.st rfl hl' ho) hu hF)
end ZR
/-! fields, at the machine -/
section ZF
variable {p : Program} {l : Launch} {e : Env} {R : Room} {s : State} {m : MethodId} {args : Array Value} {below : List Frame} {meth : Method} {c : Code} {H : Heap} {locs : List Loc} {cells slots : Nat} {Q : State → Prop}
variable {cc : ByteArray} {pc : Nat} {ls : Array Slot} {rest : List Value} {D : va_G} {tys : List (ClassId × FieldType)}
theorem zz_get (hexec : p.tables.exec = Jvm.exec) (hb : c.code = cc) {own : String} {index ci k q : Nat} {V : Nat → Value} (hts : ∀ w ∈ zT, w.before args s = true) (hN : zNs s) (hown : s.vm.findClass own = some m.cls) (hK : va_K D vwCl tys s) (hf : zFL own index ci k) (hO : t_OB q (D.1 ci) (zcl ci).2.2 (D.2 ci) H V) (hdg : decode cc pc = .ok (.getfield index, 3))
    (kk : W p l e R s m args below meth c H locs cells slots Q (F0 m (pc + 3) ls (V k :: rest))) : W p l e R s m args below meth c H locs cells slots Q (F0 m pc ls (.ref q :: rest)) := by
  obtain ⟨⟨hc, hk⟩, hlink⟩ := hf
  obtain ⟨hv1, hin, hty, hnm⟩ := zCl_all ci hc
  obtain ⟨cell, q1, q2, q3, q4⟩ := hO
  obtain ⟨hS, hfc, kC, hkC, hkind⟩ := hK.1 ci _ hv1
  obtain ⟨cf, kf, fi, f, hi, hsl⟩ := hS k hk
  rcases hlink with hlink | ⟨host, hlink⟩
  · refine W.getf hexec hb hown (hts _ hlink) hi (u_facts hfc hkC (u_lays hts hin hk) hi).1 q1 (by rw [q3]; exact fun h => by cases h) (v := V k) ?_ rfl rfl hdg kk
    rw [hsl, q4 k hk]
  · refine va_Wgetf hexec hb hown (va_Nw.use rfl (hN.1 _ hlink)) hi (u_facts hfc hkC (u_lays hts hin hk) hi).1 q1 (by rw [q3]; exact fun h => by cases h) (v := V k) ?_ rfl rfl hdg kk
    rw [hsl, q4 k hk]
theorem zz_put (hexec : p.tables.exec = Jvm.exec) (hb : c.code = cc) {own : String} {index ci k q : Nat} {V : Nat → Value} {v : Value} (hts : ∀ w ∈ zT, w.before args s = true) (hN : zNs s) (hown : s.vm.findClass own = some m.cls) (hK : va_K D vwCl tys s) (hf : zFL own index ci k) (hO : t_OB q (D.1 ci) (zcl ci).2.2 (D.2 ci) H V) (hfin : ((zcl ci).2.1 k).2.2.2 = false) (hn : narrow (zFT ci k) v = v) (hfit : fits (zFT ci k) v = true) (hdg : decode cc pc = .ok (.putfield index, 3))
    (kk : ∀ (H1 : Heap) (k1 : Nat), t_OB q (D.1 ci) (zcl ci).2.2 (D.2 ci) H1 (updV V k v) → H1.size = H.size → (∀ x, x ≠ q → H1[x]? = H[x]?) → W p l e R s m args below meth c H1 (locs ++ [⟨q, k1⟩]) cells slots Q (F0 m (pc + 3) ls rest)) : W p l e R s m args below meth c H locs cells slots Q (F0 m pc ls (v :: .ref q :: rest)) := by
  obtain ⟨⟨hc, hk⟩, hlink⟩ := hf
  obtain ⟨hv1, hin, hty, hnm⟩ := zCl_all ci hc
  have hap := va_apart (own := own) hts hin (zFT ci) hty hnm hK hv1
  obtain ⟨cell, q1, q2, q3, q4⟩ := hO
  obtain ⟨hS, hfc, kC, hkC, hkind⟩ := hK.1 ci _ hv1
  obtain ⟨cf, kf, fi, f, hi, hsl⟩ := hS k hk
  have hlay := hts _ (hin _ (u_in_lay hk))
  unfold u_lay at hlay
  rw [if_neg (by rw [hfin]; decide)] at hlay
  have hst := (u_facts hfc hkC (u_lays hts hin hk) hi).1
  have h6 := u_store hfc hkC hkind hlay hi (hty k hk) hn hfit
  rcases hlink with hlink | ⟨host, hlink⟩
  · refine W.putK hexec hb (f := f) ⟨hown, hts _ hlink, ⟨_, _, _, hi⟩, hst⟩ (by rw [q2]; exact h6) q1 q3 (by rw [hsl]; exact k2_hasslot (q4 k hk)) rfl rfl hdg fun H' e1 e2 e3 => ?_
    rw [hsl] at e1 ⊢
    exact kk H' _ ⟨_, e1, q2, q3, t_set q4 hap hk v⟩ e2 e3
  · refine va_WputK hexec hb (f := f) hown (va_Nw.use rfl (hN.1 _ hlink)) hi hst (by rw [q2]; exact h6) q1 q3 (by rw [hsl]; exact k2_hasslot (q4 k hk)) rfl rfl hdg fun H' e1 e2 e3 => ?_
    rw [hsl] at e1 ⊢
    exact kk H' _ ⟨_, e1, q2, q3, t_set q4 hap hk v⟩ e2 e3
theorem zz_putF (hexec : p.tables.exec = Jvm.exec) (hb : c.code = cc) {own : String} {index ci k q : Nat} {V : Nat → Value} {v : Value} (hts : ∀ w ∈ zT, w.before args s = true) (hown : s.vm.findClass own = some m.cls) (hK : va_K D vwCl tys s) (hf : zFL own index ci k) (hnest : ∀ z ∈ zNF, ¬ (z.1 = own ∧ z.2.1 = index)) (hO : t_OB q (D.1 ci) (zcl ci).2.2 (D.2 ci) H V) (hfin : ((zcl ci).2.1 k).2.2.2 = true) (hdecl : ((zcl ci).2.1 k).1 = own) (hin2 : meth.name = "<init>") (hn : narrow (zFT ci k) v = v) (hfit : fits (zFT ci k) v = true) (hdg : decode cc pc = .ok (.putfield index, 3))
    (kk : ∀ (H1 : Heap) (k1 : Nat), t_OB q (D.1 ci) (zcl ci).2.2 (D.2 ci) H1 (updV V k v) → H1.size = H.size → (∀ x, x ≠ q → H1[x]? = H[x]?) → W p l e R s m args below meth c H1 (locs ++ [⟨q, k1⟩]) cells slots Q (F0 m (pc + 3) ls rest)) : W p l e R s m args below meth c H locs cells slots Q (F0 m pc ls (v :: .ref q :: rest)) := by
  obtain ⟨⟨hc, hk⟩, hlink⟩ := hf
  obtain ⟨hv1, hin, hty, hnm⟩ := zCl_all ci hc
  have hap := va_apart (own := own) hts hin (zFT ci) hty hnm hK hv1
  obtain ⟨cell, q1, q2, q3, q4⟩ := hO
  obtain ⟨hS, hfc, kC, hkC, hkind⟩ := hK.1 ci _ hv1
  obtain ⟨cf, kf, fi, f, hi, hsl⟩ := hS k hk
  have hlay := hts _ (hin _ (u_in_lay hk))
  unfold u_lay at hlay
  rw [if_pos hfin] at hlay
  have hst := (u_facts hfc hkC (u_lays hts hin hk) hi).1
  have hcf : m.cls = cf := by
    obtain ⟨_, _, c', _, _, _, -, -, hf', -, -, -, hown2, -⟩ := Cond.laysFinal_spec hlay
    have e1 : c' = cf := by have := hi.symm.trans hf'; simp at this; exact this.1.symm
    rw [hdecl] at hown2
    rw [← e1]; exact Option.some.inj (hown.symm.trans hown2)
  have h6 := u_fits hfc hkC hkind (Or.inr hlay) hi (hty k hk) hn hfit
  rcases hlink with hlink | ⟨host, hlink⟩
  · refine W.putFinK hexec hb hown (hts _ hlink) hi hst hcf hin2 (by rw [q2]; exact h6) q1 q3 (by rw [hsl]; exact k2_hasslot (q4 k hk)) rfl rfl hdg fun H' e1 e2 e3 => ?_
    rw [hsl] at e1 ⊢
    exact kk H' _ ⟨_, e1, q2, q3, t_set q4 hap hk v⟩ e2 e3
  · exact absurd ⟨rfl, rfl⟩ (hnest _ hlink)
end ZF
theorem zRep.obj {D : va_G} {dt : Nat → ClassId} {b b0 : Nat} {σ : zS} {U : State} {H : Heap} (h : zRep D dt b b0 σ U H) {a c : Nat} (hk : zK σ a = c) (hc : c < 100) : 0 < a ∧ a < zn σ ∧ zg b b0 a = b0 + a ∧ c < znC ∧ t_OB (zg b b0 a) (D.1 c) (zcl c).2.2 (D.2 c) H (fun j => zv (zg b b0) (zfv σ c j a)) := by
  have h0 := zWF_pos h.1 hk (by omega)
  have h1 := zWF_lt h.1 hk (by omega)
  have h2 := h.2.2.2.1 a h0 h1 (by rw [hk]; omega)
  unfold zAt at h2
  rw [hk, if_pos hc] at h2
  rw [zg_pos h0]
  exact ⟨h0, h1, rfl, h2.1, h2.2⟩
theorem zRep.arr {D : va_G} {dt : Nat → ClassId} {b b0 : Nat} {σ : zS} {U : State} {H : Heap} (h : zRep D dt b b0 σ U H) {a t : Nat} (hk : zK σ a = 100 + t) (h0 : 0 < a) (ht : t < 800) : a < zn σ ∧ zg b b0 a = b0 + a ∧ t < znA ∧ H[zg b b0 a]? = some (vp_cell (dt t) (zL σ a, zpay (zg b b0) σ a)) := by
  have h1 := zWF_lt h.1 hk (by omega)
  have h2 := h.2.2.2.1 a h0 h1 (by rw [hk]; omega)
  unfold zAt at h2
  rw [hk, if_neg (by omega), show 100 + t - 100 = t by omega] at h2
  rw [zg_pos h0]
  exact ⟨h1, rfl, by omega, h2.2⟩
/-- one cell written -/
theorem zRep.set {D : va_G} {dt : Nat → ClassId} {b b0 : Nat} {σ σ' : zS} {U : State} {H H1 : Heap} (h : zRep D dt b b0 σ U H) {a : Nat} (h0 : 0 < a) (ha : a < zn σ) (hz : H1.size = H.size) (ho : ∀ x, x ≠ b0 + a → H1[x]? = H[x]?) (hwf : zWF σ') (hn : zn σ' = zn σ)
    (hat : zAt D dt (zg b b0) σ' a H1 (b0 + a)) (e1 : ∀ x, x ≠ a → zK σ' x = zK σ x) (e2 : ∀ x, x ≠ a → zL σ' x = zL σ x) (e3 : ∀ x, x ≠ a → ∀ c k, zF σ' c k x = zF σ c k x) (e4 : ∀ x, x ≠ a → ∀ c k, zG σ' c k x = zG σ c k x) (e5 : ∀ x, x ≠ a → zI σ' x = zI σ x) (e6 : ∀ x, x ≠ a → zR σ' x = zR σ x) (e7 : ∀ x, x ≠ a → zJ σ' x = zJ σ x) : zRep D dt b b0 σ' U H1 := by
  refine ⟨hwf, by rw [hz, hn]; exact h.2.1, h.2.2.1, fun k k0 kn kq => ?_, ?_, h.2.2.2.2.2.kept (fun x _ hx => ho x (by omega))⟩
  · by_cases e : k = a
    · subst e
      exact hat
    · rw [hn] at kn
      exact ((h.2.2.2.1 k k0 kn (by rw [← e1 k e]; exact kq)).same (e1 k e) (e2 k e) (e3 k e) (e4 k e) (e5 k e) (e6 k e) (e7 k e)).kept (ho _ (by omega))
  · rw [e2 0 (by omega), e5 0 (by omega)]
    exact h.2.2.2.2.1.kept (ho b (by have := h.2.2.1; omega))
theorem zS.put {b0 a k : Nat} {H0 H H1 : Heap} {locs : List Loc} (h : va_S (fun q => b0 < q) H0 H locs) (z : H1.size = H.size) (ho : ∀ x, x ≠ b0 + a → H1[x]? = H[x]?) (h0 : 0 < a) : va_S (fun q => b0 < q) H0 H1 (locs ++ [⟨b0 + a, k⟩]) := va_S.put h z ho (by show b0 < b0 + a; omega)
section ZR2
variable {l : Launch} {y : zM} {R : Room} {pc : Nat} {lc : List (Nat × Value)} {st : List Value} {σ : zS} {uc us : Nat} {Q : Option Value → zS → Prop}
theorem zw_get {ix c k a : Nat} (hd : decode y.2.1 pc = .ok (.getfield ix, 3)) (hf : zFL y.1.cls ix c k) (hk : zK σ a = c) (hc : c < 100) (kk : zAW l y R (pc + 3) lc (zfv σ c k a :: st) σ uc us Q) : zAW l y R pc lc (.ref a :: st) σ uc us Q := by
  intro p e s m args below meth c D dt b b0 H locs ls Qs hC hKK hR hb hS hl hu hF
  obtain ⟨h0, h1, h2, h3, h4⟩ := hR.obj hk hc
  exact zz_get hC.1 hC.2.1 hC.2.2.2.2.2.1 hKK.2 hC.2.2.2.2.1 hKK.1 hf h4 hd (kk p e s m args below meth _ D dt b b0 H locs ls Qs hC hKK hR hb hS hl hu hF)
theorem zw_getI {ix c k a : Nat} (hd : decode y.2.1 pc = .ok (.getfield ix, 3)) (hf : zFL y.1.cls ix c k) (hi : zir c k = false) (hk : zK σ a = c) (hc : c < 100) (kk : zAW l y R (pc + 3) lc (.int (zF σ c k a) :: st) σ uc us Q) : zAW l y R pc lc (.ref a :: st) σ uc us Q := by
  refine zw_get hd hf hk hc ?_
  unfold zfv
  rw [if_neg (by rw [hi]; decide)]
  exact kk
theorem zw_getR {ix c k a o : Nat} (hd : decode y.2.1 pc = .ok (.getfield ix, 3)) (hf : zFL y.1.cls ix c k) (hi : zir c k = true) (hk : zK σ a = c) (hc : c < 100) (ho : zG σ c k a = some o) (kk : zAW l y R (pc + 3) lc (.ref o :: st) σ uc us Q) : zAW l y R pc lc (.ref a :: st) σ uc us Q := by
  refine zw_get hd hf hk hc ?_
  unfold zfv
  rw [if_pos hi, ho]
  exact kk
theorem zw_putI {ix c k a : Nat} {x : Int32} (hd : decode y.2.1 pc = .ok (.putfield ix, 3)) (hf : zFL y.1.cls ix c k) (hi : zir c k = false) (hfin : ((zcl c).2.1 k).2.2.2 = false) (hn : narrow (zFT c k) (.int x) = .int x ∧ fits (zFT c k) (.int x) = true) (hk : zK σ a = c) (hc : c < 100) (kk : zAW l y R (pc + 3) lc st (zsF σ c k a x) uc us Q) : zAW l y R pc lc (.int x :: .ref a :: st) σ uc us Q := by
  intro p e s m args below meth cd D dt b b0 H locs ls Qs hC hKK hR hb hS hl hu hF
  obtain ⟨h0, h1, h2, h3, h4⟩ := hR.obj hk hc
  rw [h2] at h4
  show W p l e R s m args below meth cd H locs uc us Qs (F0 m pc ls (.int x :: .ref (zg b b0 a) :: st.map (zv (zg b b0))))
  rw [h2]
  refine zz_put hC.1 hC.2.1 hC.2.2.2.2.2.1 hKK.2 hC.2.2.2.2.1 hKK.1 hf h4 hfin hn.1 hn.2 hd (fun H1 k1 g1 g2 g3 => ?_)
  refine kk p e s m args below meth cd D dt b b0 H1 _ ls Qs hC hKK (hR.set h0 h1 g2 g3 (zWF_sF hR.1 c k a x) rfl ?_ (fun _ _ => rfl) (fun _ _ => rfl) (fun z hz c' k' => ?_) (fun _ _ _ _ => rfl) (fun _ _ => rfl) (fun _ _ => rfl) (fun _ _ => rfl)) hb (hS.put g2 g3 (by show b0 < b0 + a; omega)) hl hu hF
  · unfold zAt
    rw [show zK (zsF σ c k a x) a = c from hk, if_pos hc]
    refine ⟨h3, g1.to (fun j _ => ?_)⟩
    by_cases e : j = k
    · subst e
      simp [updV, zfv, zF_zsF, hi, zv]
    · simp [updV, zfv, zF_zsF, zG_zsF, e]
  · rw [zF_zsF, if_neg (fun q => hz q.2.2)]
theorem zw_putR {ix c k a : Nat} {r : Option Nat} (hd : decode y.2.1 pc = .ok (.putfield ix, 3)) (hf : zFL y.1.cls ix c k) (hi : zir c k = true) (hfin : ((zcl c).2.1 k).2.2.2 = false ∨ (y.1.name = "<init>" ∧ ((zcl c).2.1 k).2.2.2 = true ∧ ((zcl c).2.1 k).1 = y.1.cls ∧ (∀ z ∈ zNF, ¬ (z.1 = y.1.cls ∧ z.2.1 = ix)))) (hn : ∀ v, (v = .null ∨ ∃ q, v = .ref q) → narrow (zFT c k) v = v ∧ fits (zFT c k) v = true) (hk : zK σ a = c) (hc : c < 100) (kk : zAW l y R (pc + 3) lc st (zsG σ c k a r) uc us Q) : zAW l y R pc lc (va_rf r :: .ref a :: st) σ uc us Q := by
  intro p e s m args below meth cd D dt b b0 H locs ls Qs hC hKK hR hb hS hl hu hF
  obtain ⟨h0, h1, h2, h3, h4⟩ := hR.obj hk hc
  rw [h2] at h4
  show W p l e R s m args below meth cd H locs uc us Qs (F0 m pc ls (zv (zg b b0) (va_rf r) :: .ref (zg b b0 a) :: st.map (zv (zg b b0))))
  rw [h2]
  have hv : zv (zg b b0) (va_rf r) = .null ∨ ∃ q, zv (zg b b0) (va_rf r) = .ref q := by
    cases r with
    | none => exact Or.inl rfl
    | some o => exact Or.inr ⟨_, rfl⟩
  have key : ∀ (H1 : Heap) (k1 : Nat), t_OB (b0 + a) (D.1 c) (zcl c).2.2 (D.2 c) H1 (updV (fun j => zv (zg b b0) (zfv σ c j a)) k (zv (zg b b0) (va_rf r))) → H1.size = H.size → (∀ x, x ≠ b0 + a → H1[x]? = H[x]?) → W p l e R s m args below meth cd H1 (locs ++ [⟨b0 + a, k1⟩]) uc us Qs (F0 m (pc + 3) ls (st.map (zv (zg b b0)))) := by
    intro H1 k1 g1 g2 g3
    refine kk p e s m args below meth cd D dt b b0 H1 _ ls Qs hC hKK (hR.set h0 h1 g2 g3 (zWF_sG hR.1 c k a r) rfl ?_ (fun _ _ => rfl) (fun _ _ => rfl) (fun _ _ _ _ => rfl) (fun z hz c' k' => ?_) (fun _ _ => rfl) (fun _ _ => rfl) (fun _ _ => rfl)) hb (hS.put g2 g3 (by show b0 < b0 + a; omega)) hl hu hF
    · unfold zAt
      rw [show zK (zsG σ c k a r) a = c from hk, if_pos hc]
      refine ⟨h3, g1.to (fun j _ => ?_)⟩
      by_cases e : j = k
      · subst e
        simp [updV, zfv, zG_zsG, hi]
      · simp [updV, zfv, zG_zsG, zF_zsG, e]
    · rw [zG_zsG, if_neg (fun q => hz q.2.2)]
  rcases hfin with hfin | ⟨hi1, hfin, hdecl, hnest⟩
  · exact zz_put hC.1 hC.2.1 hC.2.2.2.2.2.1 hKK.2 hC.2.2.2.2.1 hKK.1 hf h4 hfin (hn _ hv).1 (hn _ hv).2 hd key
  · exact zz_putF hC.1 hC.2.1 hC.2.2.2.2.2.1 hC.2.2.2.2.1 hKK.1 hf hnest h4 hfin hdecl (hC.2.2.2.2.2.2.2.1 hi1) (hn _ hv).1 (hn _ hv).2 hd key
end ZR2
