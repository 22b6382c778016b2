/-! facts: what holds of one is told by those before it (the first rows begin as the kit's rows of bits) -/
theorem nx_and (a b : Nat) : nI a &&& nI b = nI (a &&& b) := by
  apply Int32.toBitVec_inj.1
  show BitVec.ofNat 32 a &&& BitVec.ofNat 32 b = BitVec.ofNat 32 (a &&& b)
  apply BitVec.eq_of_getLsbD_eq
  intro i hi
  simp [hi]
theorem nx_cnt : ∀ j : Fin 32, (UInt32.ofNat j.val &&& Int32.toUInt32 31).toNat % 32 = j.val := by decide +kernel
theorem nx_ush {k j : Nat} (hk : k < 65536) (hj : j < 32) : ((nI k).toUInt32 >>> ((nI j).toUInt32 &&& Int32.toUInt32 31)).toInt32 = nI (k >>> j) := by
  have hs : k >>> j ≤ k := by
    rw [Nat.shiftRight_eq_div_pow]
    exact Nat.div_le_self _ _
  have e2 : UInt32.ofNat k >>> (UInt32.ofNat j &&& Int32.toUInt32 31) = UInt32.ofNat (k >>> j) := by
    apply UInt32.toNat_inj.1
    have h1 : (UInt32.ofNat k).toNat = k := Nat.mod_eq_of_lt (by omega)
    have h2 : (UInt32.ofNat (k >>> j)).toNat = k >>> j := Nat.mod_eq_of_lt (by omega)
    rw [UInt32.toNat_shiftRight, nx_cnt ⟨j, hj⟩, h1, h2]
  show (UInt32.ofNat k >>> (UInt32.ofNat j &&& Int32.toUInt32 31)).toInt32 = _
  rw [e2]
  rfl
theorem nx_bit {k j : Nat} (hk : k < 65536) (hj : j < 16) : (((nI k).toUInt32 >>> ((nI j).toUInt32 &&& Int32.toUInt32 31)).toInt32 &&& 1) = 0 ↔ k.testBit j = false := by
  rw [nx_ush hk (by omega)]
  show nI (k >>> j) &&& nI 1 = 0 ↔ _
  rw [nx_and, Nat.and_one_is_mod, ← nI_0, nI_eq (by omega) (by omega), Nat.testBit_eq_decide_div_mod_eq, Nat.shiftRight_eq_div_pow, decide_eq_false_iff_not]
  generalize k / 2 ^ j = z
  omega
theorem xIsK_bit {K j : Nat} (hK : K < 65536) (hj : j < 16) : xIsK (nI K) (nI j) = K.testBit j := by
  have h := nx_bit hK hj
  unfold xIsK xSr
  cases e : K.testBit j with
  | false => exact decide_eq_false (fun q => q (h.mpr e))
  | true => exact decide_eq_true (fun q => by rw [h.mp q] at e; cases e)
theorem one_shl : ∀ f, f < 12 → (1 : Int32) <<< (nI f &&& 31) = nI (2 ^ f) := by decide +kernel
theorem xKn_succ {σ : zS} {k : Int32} : ∀ (d f : Nat) (kn : Int32), xKn σ k (d + 1) f kn = if xTr σ (f + d) k (xKn σ k d f kn) = true then xKn σ k d f kn ||| (1 <<< (nI (f + d) &&& 31)) else xKn σ k d f kn
  | 0, _, _ => rfl
  | d + 1, f, kn => by
    have ih := xKn_succ (σ := σ) (k := k) d (f + 1) (if xTr σ f k kn = true then kn ||| (1 <<< (nI f &&& 31)) else kn)
    rw [show f + 1 + d = f + (d + 1) by omega] at ih
    exact ih
/-- what is known of the first j facts -/
def KN (σ : zS) (k : Int32) (j : Nat) : Int32 := xKn σ k j 0 0
theorem KN_succ {σ : zS} {k : Int32} (j : Nat) : KN σ k (j + 1) = if xTr σ j k (KN σ k j) = true then KN σ k j ||| (1 <<< (nI j &&& 31)) else KN σ k j := by
  have h := xKn_succ (σ := σ) (k := k) j 0 0
  rw [Nat.zero_add] at h
  exact h
theorem xHold_KN (σ : zS) (j : Nat) (k : Int32) : xHold σ j k = xIsK (KN σ k (j + 1)) (nI j) := rfl
theorem KN_all {σ : zS} {k : Int32} : ∀ j, j ≤ 12 → ∃ K, KN σ k j = nI K ∧ K < 2 ^ j ∧ ∀ i, i < j → K.testBit i = xHold σ i k
  | 0, _ => ⟨0, rfl, by decide, fun i hi => absurd hi (Nat.not_lt_zero i)⟩
  | j + 1, hj => by
    obtain ⟨K, e, hK, hb⟩ := KN_all (σ := σ) (k := k) j (by omega)
    have p12 : (2 : Nat) ^ (j + 1) ≤ 2 ^ 12 := Nat.pow_le_pow_right (by decide) hj
    have p1 : (2 : Nat) ^ (j + 1) = 2 * 2 ^ j := by rw [Nat.pow_succ]; omega
    have bj : K.testBit j = false := Nat.testBit_lt_two_pow hK
    have hs := KN_succ (σ := σ) (k := k) j
    have e2 : ∃ K2, KN σ k (j + 1) = nI K2 ∧ K2 < 2 ^ (j + 1) ∧ ∀ i, i < j → K2.testBit i = K.testBit i := by
      by_cases c : xTr σ j k (KN σ k j) = true
      · rw [if_pos c, e, one_shl j (by omega), fa_or] at hs
        refine ⟨K ||| 2 ^ j, hs, ?_, fun i hi => ?_⟩
        · exact Nat.or_lt_two_pow (by omega) (by omega)
        · rw [Nat.testBit_or, Nat.testBit_two_pow_of_ne (by omega), Bool.or_false]
      · rw [if_neg c, e] at hs
        exact ⟨K, hs, by omega, fun _ _ => rfl⟩
    obtain ⟨K2, h1, h2, h3⟩ := e2
    refine ⟨K2, h1, h2, fun i hi => ?_⟩
    by_cases c : i = j
    · rw [c, xHold_KN, h1, xIsK_bit (by omega) (by omega)]
    · rw [h3 i (by omega)]
      exact hb i (by omega)
theorem KN_bit {σ : zS} {k : Int32} {j i : Nat} (hj : j ≤ 12) (hi : i < j) : xIsK (KN σ k j) (nI i) = xHold σ i k := by
  obtain ⟨K, e, hK, hb⟩ := KN_all (σ := σ) (k := k) j hj
  have p12 : (2 : Nat) ^ j ≤ 2 ^ 12 := Nat.pow_le_pow_right (by decide) hj
  rw [e, xIsK_bit (by omega) (by omega)]
  exact hb i hi
theorem xHold_tr {σ : zS} {k : Int32} {j : Nat} (hj : j < 12) : xHold σ j k = xTr σ j k (KN σ k j) := by
  obtain ⟨K, e, hK, hb⟩ := KN_all (σ := σ) (k := k) j (by omega)
  have p12 : (2 : Nat) ^ j ≤ 2 ^ 11 := Nat.pow_le_pow_right (by decide) (by omega)
  have bj : K.testBit j = false := Nat.testBit_lt_two_pow hK
  rw [xHold_KN, KN_succ]
  by_cases c : xTr σ j k (KN σ k j) = true
  · rw [if_pos c, c, e, one_shl j hj, fa_or, xIsK_bit (Nat.lt_of_lt_of_le (Nat.or_lt_two_pow (n := 12) (by omega) (by omega)) (by decide)) (by omega), Nat.testBit_or, Nat.testBit_two_pow_self, Bool.or_true]
  · rw [if_neg c, Bool.eq_false_iff.mpr c, e, xIsK_bit (by omega) (by omega)]
    exact bj
theorem hT_0 {σ : zS} {k : Int32} {j : Nat} {a b : Int32} (hj : j < 12) (h1 : zI σ 18 j = 0) (h2 : zI σ 19 j = a) (h3 : zI σ 20 j = b) : xHold σ j k = decide (xLoc k a = b) := by
  rw [xHold_tr hj]
  unfold xTr
  rw [h1, h2, h3, if_pos rfl]
theorem hT_1 {σ : zS} {k : Int32} {j : Nat} {a b : Int32} (hj : j < 12) (h1 : zI σ 18 j = 1) (h2 : zI σ 19 j = a) (h3 : zI σ 20 j = b) : xHold σ j k = decide (xVal k a = b) := by
  rw [xHold_tr hj]
  unfold xTr
  rw [h1, h2, h3, if_neg (by decide), if_pos rfl]
theorem hT_2 {σ : zS} {k : Int32} {j : Nat} {a b : Int32} (hj : j < 12) (h1 : zI σ 18 j = 2) (h2 : zI σ 19 j = a) (h3 : zI σ 20 j = b) : xHold σ j k = decide (xVal k a ≤ b) := by
  rw [xHold_tr hj]
  unfold xTr
  rw [h1, h2, h3, if_neg (by decide), if_neg (by decide), if_pos rfl]
theorem hT_3 {σ : zS} {k : Int32} {j a : Nat} (hj : j < 12) (h1 : zI σ 18 j = 3) (h2 : zI σ 19 j = nI a) (ha : a < j) : xHold σ j k = !xHold σ a k := by
  rw [xHold_tr hj]
  unfold xTr
  rw [h1, h2, if_neg (by decide), if_neg (by decide), if_neg (by decide), if_pos rfl, KN_bit (by omega) ha]
theorem hT_4 {σ : zS} {k : Int32} {j a b : Nat} (hj : j < 12) (h1 : zI σ 18 j = 4) (h2 : zI σ 19 j = nI a) (h3 : zI σ 20 j = nI b) (ha : a < j) (hb : b < j) : xHold σ j k = (xHold σ a k && xHold σ b k) := by
  rw [xHold_tr hj]
  unfold xTr
  rw [h1, h2, h3, if_neg (by decide), if_neg (by decide), if_neg (by decide), if_neg (by decide), if_pos rfl, KN_bit (by omega) ha, KN_bit (by omega) hb]
theorem hT_5 {σ : zS} {k : Int32} {j a b : Nat} (hj : j < 12) (h1 : zI σ 18 j = 5) (h2 : zI σ 19 j = nI a) (h3 : zI σ 20 j = nI b) (ha : a < j) (hb : b < j) : xHold σ j k = (xHold σ a k || xHold σ b k) := by
  rw [xHold_tr hj]
  unfold xTr
  rw [h1, h2, h3, if_neg (by decide), if_neg (by decide), if_neg (by decide), if_neg (by decide), if_neg (by decide), KN_bit (by omega) ha, KN_bit (by omega) hb]
/-- the first facts alone count -/
theorem KN_le {σ σ' : zS} {k : Int32} : ∀ j, (∀ i, i < j → zI σ' 18 i = zI σ 18 i ∧ zI σ' 19 i = zI σ 19 i ∧ zI σ' 20 i = zI σ 20 i) → KN σ' k j = KN σ k j
  | 0, _ => rfl
  | j + 1, h => by
    obtain ⟨h1, h2, h3⟩ := h j (Nat.lt_succ_self j)
    have e : ∀ kn, xTr σ' j k kn = xTr σ j k kn := fun kn => by unfold xTr; rw [h1, h2, h3]
    rw [KN_succ, KN_succ, KN_le j (fun i hi => h i (by omega)), e]
theorem xHold_le {σ σ' : zS} {k : Int32} {j : Nat} (h : ∀ i, i ≤ j → zI σ' 18 i = zI σ 18 i ∧ zI σ' 19 i = zI σ 19 i ∧ zI σ' 20 i = zI σ 20 i) : xHold σ' j k = xHold σ j k := by
  rw [xHold_KN, xHold_KN, KN_le (j + 1) (fun i hi => h i (by omega))]
/-! what facts leave alone -/
def zU (σ σ' : zS) : Prop := zn σ ≤ zn σ' ∧ ∀ a, a < zn σ → zK σ' a = zK σ a ∧ zL σ' a = zL σ a ∧ zR σ' a = zR σ a ∧ (¬ (18 ≤ a ∧ a ≤ 20) → zI σ' a = zI σ a) ∧ (∀ c k, zG σ' c k a = zG σ c k a) ∧ ∀ c k, c ≠ 0 → zF σ' c k a = zF σ c k a
theorem zU.rf (σ : zS) : zU σ σ := ⟨Nat.le_refl _, fun _ _ => ⟨rfl, rfl, rfl, fun _ => rfl, fun _ _ => rfl, fun _ _ _ => rfl⟩⟩
theorem zU.I {σ0 σ : zS} {a i : Nat} {x : Int32} (h : zU σ0 σ) (ha : zn σ0 ≤ a ∨ (18 ≤ a ∧ a ≤ 20)) : zU σ0 (zsI σ a i x) := by
  refine ⟨h.1, fun b hb => ?_⟩
  obtain ⟨b1, b2, b3, b4, b5, b6⟩ := h.2 b hb
  refine ⟨b1, b2, b3, fun q => ?_, b5, b6⟩
  rw [← b4 q]
  funext j
  rw [zI_zsI, if_neg (by omega)]
theorem zU.F {σ0 σ : zS} {k a : Nat} {x : Int32} (h : zU σ0 σ) : zU σ0 (zsF σ 0 k a x) := by
  refine ⟨h.1, fun b hb => ?_⟩
  obtain ⟨b1, b2, b3, b4, b5, b6⟩ := h.2 b hb
  exact ⟨b1, b2, b3, b4, b5, fun c k' hc => by rw [zF_zsF, if_neg (fun q => hc q.1)]; exact b6 c k' hc⟩
theorem zU.M (σ : zS) (t1 t2 N M : Nat) : zU σ (znM σ t1 t2 N M) := by
  refine ⟨by rw [zn_znM]; omega, fun a ha => ?_⟩
  refine ⟨?_, ?_, ?_, fun _ => funext fun i => ?_, fun _ _ => rfl, fun _ _ _ => rfl⟩
  · rw [zK_znM, if_neg (by omega), if_neg (by omega)]
  · rw [zL_znM, if_neg (by omega), if_neg (by omega)]
  · funext i
    rw [zR_znM, if_neg (by omega), if_neg (by omega)]
  · rw [zI_znM, if_neg (by omega)]
/-- the hand as the facts want it -/
def wH (σ : zS) (ls G : List Int32) (rows : List (List Int32)) : Prop := zK σ 30 = 6 ∧ 30 < zn σ ∧ fH σ 0 ls ∧ fH σ 1 G ∧ ∃ sa, zG σ 6 4 30 = some sa ∧ 0 < sa ∧ iII σ sa rows
theorem iI.u {σ σ' : zS} {a : Nat} {xs : List Int32} (h : iI σ a xs) (hu : zU σ σ') (ha : ¬ (18 ≤ a ∧ a ≤ 20)) : iI σ' a xs := by
  obtain ⟨h1, h2, h3, h4, h5⟩ := h
  obtain ⟨b1, b2, b3, b4, -⟩ := hu.2 a h3
  exact ⟨b1.trans h1, h2, Nat.lt_of_lt_of_le h3 hu.1, b2.trans h4, fun i x q => by rw [b4 ha]; exact h5 i x q⟩
theorem wH.u {σ σ' : zS} {ls G : List Int32} {rows : List (List Int32)} (h : wH σ ls G rows) (hs : xSh σ) (hr : ∀ r, r ∈ rows → r.length ≤ 5) (hu : zU σ σ') : wH σ' ls G rows := by
  obtain ⟨h1, h2, h3, h4, sa, h5, h50, h6⟩ := h
  obtain ⟨b1, -, -, -, b5, -⟩ := hu.2 30 h2
  have f : ∀ k xs, fH σ k xs → fH σ' k xs := by
    rintro k xs ⟨a, q1, q2, q3⟩
    exact ⟨a, (b5 6 k).trans q1, q2, q3.u hu (by omega)⟩
  obtain ⟨r1, r2, r3, r4, r5⟩ := h6
  obtain ⟨c1, c2, c3, c4, -⟩ := hu.2 sa r3
  refine ⟨b1.trans h1, Nat.lt_of_lt_of_le h2 hu.1, f 0 ls h3, f 1 G h4, sa, (b5 6 4).trans h5, h50, c1.trans r1, r2, Nat.lt_of_lt_of_le r3 hu.1, c2.trans r4, fun i x q => ?_⟩
  obtain ⟨b, e1, e2⟩ := r5 i x q
  refine ⟨b, by rw [c3]; exact e1, e2.u hu (fun z => ?_)⟩
  have hl := hr x (List.mem_of_getElem? q)
  have hb := e2.2.2.2.1
  have l18 := xl_18 hs
  have l19 := xl_19 hs
  have l20 := xl_20 hs
  rcases (show b = 18 ∨ b = 19 ∨ b = 20 by omega) with e | e | e <;> (rw [e] at hb; omega)
theorem cR.u {σ σ' : zS} {ls G : List Int32} (h : cR σ ls G) (hw : zWF σ) (hu : zU σ σ') : cR σ' ls G := by
  obtain ⟨h1, h2, h3, h4, h5⟩ := h
  have f29 := zWF_lt hw (xk_29 h1) (by decide)
  have f : ∀ a, zK σ a ≠ 999 → a < zn σ := fun a ha => by
    rcases Nat.lt_or_ge a (zn σ) with q | q
    · exact q
    · exact absurd (hw.2.2 a q) ha
  refine ⟨h1.mono (fun a ha => (hu.2 a (f a ha)).1) (fun a ha => (hu.2 a (f a ha)).2.1) (fun c k a ha _ => (hu.2 a (f a ha)).2.2.2.2.1 c k), ((hu.2 2 (by omega)).2.2.2.2.2 2 5 (by decide)).trans h2, ((hu.2 2 (by omega)).2.2.2.2.2 2 6 (by decide)).trans h3, fun p x q => ?_, by rw [(hu.2 0 (by omega)).2.1]; exact h5⟩
  rw [(hu.2 3 (by omega)).2.2.2.1 (by omega)]
  exact h4 p x q
theorem zU.qq {pk : Nat} {σ σ' : zS} (h : zU σ σ') (h30 : 29 < zn σ) (hp : pk < zn σ) (hp2 : pk = 16 ∨ 30 ≤ pk) : xQ pk σ σ' := by
  refine ⟨fun a ha => ?_, fun c k a ha => ?_, fun c k a ha hc => ?_, fun a ha => ?_⟩
  · have := h.2 a (by omega)
    exact ⟨this.1, this.2.1⟩
  · exact (h.2 a (by omega)).2.2.2.2.1 c k
  · exact (h.2 a (by omega)).2.2.2.2.2 c k (by omega)
  · exact (h.2 a (by omega)).2.2.2.1 (by omega)
