/-! all steps of a mover -/
def xPm (σ : zS) (a : Nat) : Int32 := (zF σ 1 0 a <<< ((9 : Int32) &&& 31)) ||| (zF σ 1 1 a <<< ((12 : Int32) &&& 31))
def xPb (σ : zS) (b : Nat) : Int32 := ((zF σ 1 0 b + 1) <<< ((16 : Int32) &&& 31)) ||| ((zF σ 1 1 b + 1) <<< ((19 : Int32) &&& 31))
/-- the processes and their moves: how many, and where each lies -/
def xPro (σ : zS) (P : Nat) (mc : Nat → Nat) (mid : Nat → Nat → Nat) : Prop :=
  xP σ = nI P ∧ P ≤ 3 ∧ (∀ p, p < P → zI σ 4 p = nI (mc p) ∧ mc p ≤ 6) ∧ ∀ p m, p < P → m < mc p → zR σ 5 (16 * p + m) = some (mid p m) ∧ zK σ (mid p m) = 1 ∧ zF σ 1 0 (mid p m) = nI p ∧ zF σ 1 1 (mid p m) = nI m
theorem xPro.fr {σ σ' : zS} {pk pk' P : Nat} {mc : Nat → Nat} {mid : Nat → Nat → Nat} (h : xPro σ P mc mid) (hs : xSh σ) (hp : pk = 16 ∨ 30 ≤ pk) (hf : xFr σ σ' pk pk') : xPro σ' P mc mid := by
  obtain ⟨h1, h2, h3, h4⟩ := h
  obtain ⟨-, -, f1, -, f3, -, f5, f6, -⟩ := hf
  refine ⟨?_, h2, fun p hp' => ?_, fun p m hp' hm => ?_⟩
  · rw [← h1]
    exact f3 2 5 2 (by decide)
  · rw [f5 4 (by rw [xk_4 hs]; decide) (by omega) (by omega)]
    exact h3 p hp'
  · obtain ⟨g1, g2, g3, g4⟩ := h4 p m hp' hm
    rw [f6 5 (by rw [xk_5 hs]; decide), f1 _ (by rw [g2]; decide), f3 _ _ _ (by decide), f3 _ _ _ (by decide)]
    exact ⟨g1, g2, g3, g4⟩
theorem xOpen_fr {σ σ' : zS} (h : ∀ c k a, c ≠ 3 → zF σ' c k a = zF σ c k a) (a : Nat) (k : Int32) : xOpen σ' a k = xOpen σ a k ∧ xAD σ' a k = xAD σ a k ∧ xAG σ' a k = xAG σ a k ∧ xPm σ' a = xPm σ a ∧ xPb σ' a = xPb σ a ∧ xGA σ' a k = xGA σ a k := by
  have f : ∀ j, zF σ' 1 j a = zF σ 1 j a := fun j => h 1 j a (by decide)
  unfold xOpen xAD xAG xPm xPb xGA
  simp only [f, and_self]
/-- one pair of moves makes a step: its other move b, at the key k and behind the first one's deed -/
def xPair (σ : zS) (a b : Nat) (k aft : Int32) : Bool := decide (zF σ 1 4 b = zF σ 1 4 a) && (xOpen σ b k && decide (0 ≤ xAD σ b aft))
/-- the other process q's moves, from m on, d of them -/
def xIn (σ0 : zS) (mid : Nat → Nat → Nat) (a : Nat) (k aft : Int32) (s q : Nat) : Nat → Nat → zS → zS
  | 0, _, σ => σ
  | d + 1, m, σ => xIn σ0 mid a k aft s q d (m + 1) (if xPair σ0 a (mid q m) k aft = true then xStp σ s (xAG σ0 (mid q m) (xAD σ0 (mid q m) aft)) (xPm σ0 a ||| xPb σ0 (mid q m)) else σ)
/-- the other processes, from q on, d of them -/
def xOut (σ0 : zS) (mc : Nat → Nat) (mid : Nat → Nat → Nat) (a : Nat) (k aft : Int32) (s : Nat) : Nat → Nat → zS → zS
  | 0, _, σ => σ
  | d + 1, q, σ => xOut σ0 mc mid a k aft s d (q + 1) (xIn σ0 mid a k aft s q (mc q) 0 σ)
/-- all steps of the mover a, of the process pa -/
def xBy (σ0 : zS) (P : Nat) (mc : Nat → Nat) (mid : Nat → Nat → Nat) (pa a : Nat) (k : Int32) (s : Nat) (σ : zS) : zS :=
  if zF σ0 1 4 a = 0 then xStp σ s (xAG σ0 a (xAD σ0 a k)) (xPm σ0 a) else xOut σ0 mc mid a k (xAG σ0 a (xAD σ0 a k)) s (P - (pa + 1)) (pa + 1) σ
/-- while it explores, from σ0 on: the state s has the key k -/
def xJ (σ0 : zS) (p0 s : Nat) (k : Int32) (σ : zS) (pk n T : Nat) (po : Nat → Nat) : Prop := xI σ pk n T po ∧ xFr σ0 σ p0 pk ∧ zI σ 9 s = k ∧ s < n
/-- how far it went on: at most d steps more -/
def xTo (σ : zS) (pk n T : Nat) (σ' : zS) (pk' n' T' d : Nat) : Prop := xFr σ σ' pk pk' ∧ n ≤ n' ∧ T ≤ T' ∧ T' ≤ T + d ∧ zL σ pk ≤ zL σ' pk' ∧ ∀ i, i < n → zI σ' 9 i = zI σ 9 i
theorem xTo.rf (σ : zS) (pk n T d : Nat) : xTo σ pk n T σ pk n T d := ⟨xFr.rf σ pk, Nat.le_refl _, Nat.le_refl _, by omega, Nat.le_refl _, fun _ _ => rfl⟩
theorem xTo.tr {σ σ1 σ2 : zS} {pk n T pk1 n1 T1 pk2 n2 T2 d1 d2 : Nat} (h : xTo σ pk n T σ1 pk1 n1 T1 d1) (h2 : xTo σ1 pk1 n1 T1 σ2 pk2 n2 T2 d2) : xTo σ pk n T σ2 pk2 n2 T2 (d1 + d2) := by
  obtain ⟨a1, a2, a3, a4, a5, a6⟩ := h
  obtain ⟨b1, b2, b3, b4, b5, b6⟩ := h2
  exact ⟨a1.tr b1, by omega, by omega, by omega, by omega, fun i hi => (b6 i (by omega)).trans (a6 i hi)⟩
theorem xTo.wid {σ σ1 : zS} {pk n T pk1 n1 T1 d d' : Nat} (h : xTo σ pk n T σ1 pk1 n1 T1 d) (hd : d ≤ d') : xTo σ pk n T σ1 pk1 n1 T1 d' := ⟨h.1, h.2.1, h.2.2.1, by have := h.2.2.2.1; omega, h.2.2.2.2⟩
theorem xJ.to {σ0 σ σ' : zS} {p0 s pk n T pk' n' T' d : Nat} {k : Int32} {po po' : Nat → Nat} (h : xJ σ0 p0 s k σ pk n T po) (hi : xI σ' pk' n' T' po') (ht : xTo σ pk n T σ' pk' n' T' d) : xJ σ0 p0 s k σ' pk' n' T' po' := ⟨hi, h.2.1.tr ht.1, (ht.2.2.2.2.2 s h.2.2.2).trans h.2.2.1, Nat.lt_of_lt_of_le h.2.2.2 ht.2.1⟩
theorem xJ_stp {σ0 σ : zS} {p0 s pk n T : Nat} {k : Int32} {po : Nat → Nat} (h : xJ σ0 p0 s k σ pk n T po) (hT : T ≤ 512000) (x mov : Int32) : ∃ pk' n' T' po', xJ σ0 p0 s k (xStp σ s x mov) pk' n' T' po' ∧ xTo σ pk n T (xStp σ s x mov) pk' n' T' 1 := by
  obtain ⟨pk', n', T', po', h1, h2, h3, h4, h5, h6, h7⟩ := xI_stp (s := s) h.1 hT x mov
  exact ⟨pk', n', T', po', h.to h1 ⟨h2, h3, h4, h5, h6, h7⟩, ⟨h2, h3, h4, h5, h6, h7⟩⟩
theorem xJ_in {σ0 : zS} {p0 s : Nat} {k : Int32} {mid : Nat → Nat → Nat} {a : Nat} {aft : Int32} {q : Nat} : ∀ (d m : Nat) {σ : zS} {pk n T : Nat} {po : Nat → Nat}, xJ σ0 p0 s k σ pk n T po → T + d ≤ 512000 → ∃ pk' n' T' po', xJ σ0 p0 s k (xIn σ0 mid a k aft s q d m σ) pk' n' T' po' ∧ xTo σ pk n T (xIn σ0 mid a k aft s q d m σ) pk' n' T' d
  | 0, m, σ, pk, n, T, po, h, hT => ⟨pk, n, T, po, h, xTo.rf _ _ _ _ _⟩
  | d + 1, m, σ, pk, n, T, po, h, hT => by
    unfold xIn
    split
    · obtain ⟨pk1, n1, T1, po1, h1, h2⟩ := xJ_stp h (by omega) (xAG σ0 (mid q m) (xAD σ0 (mid q m) aft)) (xPm σ0 a ||| xPb σ0 (mid q m))
      obtain ⟨pk2, n2, T2, po2, h3, h4⟩ := xJ_in (mid := mid) (a := a) (aft := aft) (q := q) d (m + 1) h1 (by have := h2.2.2.2.1; omega)
      exact ⟨pk2, n2, T2, po2, h3, (h2.tr h4).wid (by omega)⟩
    · obtain ⟨pk2, n2, T2, po2, h3, h4⟩ := xJ_in (mid := mid) (a := a) (aft := aft) (q := q) d (m + 1) h (by omega)
      exact ⟨pk2, n2, T2, po2, h3, h4.wid (by omega)⟩
theorem xJ_out {σ0 : zS} {p0 s : Nat} {k : Int32} {mc : Nat → Nat} {mid : Nat → Nat → Nat} {a : Nat} {aft : Int32} : ∀ (d q : Nat), (∀ q', q ≤ q' → q' < q + d → mc q' ≤ 6) → ∀ {σ : zS} {pk n T : Nat} {po : Nat → Nat}, xJ σ0 p0 s k σ pk n T po → T + 6 * d ≤ 512000 → ∃ pk' n' T' po', xJ σ0 p0 s k (xOut σ0 mc mid a k aft s d q σ) pk' n' T' po' ∧ xTo σ pk n T (xOut σ0 mc mid a k aft s d q σ) pk' n' T' (6 * d)
  | 0, q, hm, σ, pk, n, T, po, h, hT => ⟨pk, n, T, po, h, xTo.rf _ _ _ _ _⟩
  | d + 1, q, hm, σ, pk, n, T, po, h, hT => by
    unfold xOut
    have := hm q (by omega) (by omega)
    obtain ⟨pk1, n1, T1, po1, h1, h2⟩ := xJ_in (mid := mid) (a := a) (aft := aft) (q := q) (mc q) 0 h (by omega)
    obtain ⟨pk2, n2, T2, po2, h3, h4⟩ := xJ_out (mc := mc) (mid := mid) (a := a) (aft := aft) d (q + 1) (fun q' g1 g2 => hm q' (by omega) (by omega)) h1 (by have := h2.2.2.2.1; omega)
    exact ⟨pk2, n2, T2, po2, h3, (h2.tr h4).wid (by omega)⟩
theorem xTo.zn {σ σ1 : zS} {pk n T pk1 n1 T1 d : Nat} (h : xTo σ pk n T σ1 pk1 n1 T1 d) : zn σ ≤ zn σ1 := h.1.1
theorem xTo.len {σ0 σ σ1 : zS} {p0 s : Nat} {k : Int32} {pk n T pk1 n1 T1 d : Nat} {po po1 : Nat → Nat} (h : xTo σ pk n T σ1 pk1 n1 T1 d) (h0 : xJ σ0 p0 s k σ pk n T po) (h1 : xJ σ0 p0 s k σ1 pk1 n1 T1 po1) : xLen σ ≤ xLen σ1 := by
  rw [xLen_eq h0.1.2.1, xLen_eq h1.1.2.1]
  exact h.2.2.2.2.1
set_option maxHeartbeats 4000000 in
set_option maxRecDepth 100000 in
theorem c_X3_packedMover {l : Launch} {σ : zS} {a : Nat} (hm : zK σ a = 1) : zAM l zmX3_packedMover 0 0 0 0 [.ref a] σ (fun v σ' => v = some (.int (xPm σ a)) ∧ σ' = σ) := by
  refine zAM.of (by decide +kernel) (Nat.le_of_ble_eq_true rfl) ?_
  refine zw_aload_n dX3_packedMover_0 rfl ?_
  refine zw_getI dX3_packedMover_1 zfX3_115 rfl hm (by decide) ?_
  refine zw_bipush (x := 9) dX3_packedMover_4 rfl ?_
  refine zw_ishl dX3_packedMover_6 ?_
  refine zw_aload_n dX3_packedMover_7 rfl ?_
  refine zw_getI dX3_packedMover_8 zfX3_121 rfl hm (by decide) ?_
  refine zw_bipush (x := 12) dX3_packedMover_11 rfl ?_
  refine zw_ishl dX3_packedMover_13 ?_
  refine zw_ior dX3_packedMover_14 ?_
  refine zw_iret dX3_packedMover_15 rfl rfl ?_
  exact ⟨rfl, rfl⟩
set_option maxHeartbeats 4000000 in
set_option maxRecDepth 100000 in
theorem c_X3_packedOther {l : Launch} {σ : zS} {a : Nat} (hm : zK σ a = 1) : zAM l zmX3_packedOther 0 0 0 0 [.ref a] σ (fun v σ' => v = some (.int (xPb σ a)) ∧ σ' = σ) := by
  refine zAM.of (by decide +kernel) (Nat.le_of_ble_eq_true rfl) ?_
  refine zw_aload_n dX3_packedOther_0 rfl ?_
  refine zw_getI dX3_packedOther_1 zfX3_115 rfl hm (by decide) ?_
  refine zw_iconst (x := 1) dX3_packedOther_4 rfl ?_
  refine zw_iadd dX3_packedOther_5 ?_
  refine zw_bipush (x := 16) dX3_packedOther_6 rfl ?_
  refine zw_ishl dX3_packedOther_8 ?_
  refine zw_aload_n dX3_packedOther_9 rfl ?_
  refine zw_getI dX3_packedOther_10 zfX3_121 rfl hm (by decide) ?_
  refine zw_iconst (x := 1) dX3_packedOther_13 rfl ?_
  refine zw_iadd dX3_packedOther_14 ?_
  refine zw_bipush (x := 19) dX3_packedOther_15 rfl ?_
  refine zw_ishl dX3_packedOther_17 ?_
  refine zw_ior dX3_packedOther_18 ?_
  refine zw_iret dX3_packedOther_19 rfl rfl ?_
  exact ⟨rfl, rfl⟩
set_option maxHeartbeats 4000000 in
set_option maxRecDepth 100000 in
theorem lp_By_in {l : Launch} {σ0 : zS} {P p0 s a q : Nat} {k aft : Int32} {mc : Nat → Nat} {mid : Nat → Nat → Nat} (h0 : xSh σ0) (hp0 : p0 = 16 ∨ 30 ≤ p0) (hpro : xPro σ0 P mc mid) (hma : zK σ0 a = 1) (hq : q < P) (hs : s < 400) {C S : Nat} {Q : Option Value → zS → Prop} :
    ∀ (d m : Nat) (σ : zS) (pk n T : Nat) (po : Nat → Nat) (uc us : Nat), m + d = mc q → xJ σ0 p0 s k σ pk n T po → T + d ≤ 512000 → uc + (zn (xIn σ0 mid a k aft s q d m σ) - zn σ) ≤ C → us + 2 * (xLen (xIn σ0 mid a k aft s q d m σ) - xLen σ) ≤ S →
    (∀ uc' us', uc' = uc + (zn (xIn σ0 mid a k aft s q d m σ) - zn σ) → us' = us + 2 * (xLen (xIn σ0 mid a k aft s q d m σ) - xLen σ) → zAW l zmX3_addStepsBy { frames := 3, cells := C, slots := S, locals := 86 } 152 [(0, .ref 8), (1, .ref a), (2, .int (nI s)), (3, .ref 2), (4, .int aft), (5, .int (nI q)), (6, .int (nI (mc q)))] [] (xIn σ0 mid a k aft s q d m σ) uc' us' Q) →
    zAW l zmX3_addStepsBy { frames := 3, cells := C, slots := S, locals := 86 } 55 [(0, .ref 8), (1, .ref a), (2, .int (nI s)), (3, .ref 2), (4, .int aft), (5, .int (nI q)), (6, .int (nI m))] [] σ uc us Q := by
  intro d
  induction d with
  | zero =>
    intro m σ pk n T po uc us hd hj hT hc1 hc2 hK
    have hd : m = mc q := hd
    subst hd
    have h := hj.1.1
    have hpr := hpro.fr h0 hp0 hj.2.1
    have hmc := hpr.2.2.1 q hq
    refine zw_iload dX3_addStepsBy_55 rfl ?_
    refine zw_aload_n dX3_addStepsBy_57 rfl ?_
    refine zw_iload dX3_addStepsBy_58 rfl ?_
    refine zw_callV (y' := zmX2_movesOf) dX3_addStepsBy_60 zlX3_81 zmX2_movesOf_ok (xk_2 h) (by decide) rfl (c_X2_movesOf h hpr.1 (Nat.le_trans hpr.2.1 (by decide)) hq) rfl rfl (Nat.le_of_ble_eq_true rfl) ⟨Nat.le_of_ble_eq_true rfl, Nat.le_of_ble_eq_true rfl⟩ ⟨by show uc + 0 ≤ C; omega, by show us + 0 ≤ S; omega⟩ ?_
    intro v60 s60 q60
    obtain ⟨rfl, z60⟩ := q60
    rw [z60]
    clear z60
    rw [hmc.1]
    refine zw_icmpge (tgt := 152) dX3_addStepsBy_63 (by decide) (fun c63 => ?_) (fun c63 => ?_)
    · exact hK _ _ (by show uc + 0 = _; rw [show xIn σ0 mid a k aft s q 0 (mc q) σ = σ from rfl]; omega) (by show us + 0 = _; rw [show xIn σ0 mid a k aft s q 0 (mc q) σ = σ from rfl]; omega)
    · exact absurd (nI_le (Nat.le_refl (mc q)) (by omega)) c63
  | succ d ih =>
    intro m σ pk n T po uc us hd hj hT hc1 hc2 hK
    have h := hj.1.1
    have hpr := hpro.fr h0 hp0 hj.2.1
    have hmc := hpr.2.2.1 q hq
    have hfF := hj.2.1.2.2.2.2.1
    have hma1 : zK σ a = 1 := by rw [hj.2.1.2.2.1 a (by rw [hma]; decide)]; exact hma
    have hmlt : m < mc q := by omega
    obtain ⟨hb1, hb2, hb3, hb4⟩ := hpr.2.2.2 q m hq hmlt
    have eb := xOpen_fr hfF (mid q m) k
    have eb2 := xOpen_fr hfF (mid q m) aft
    have ea := xOpen_fr hfF a k
    have ehb : zF σ 1 4 (mid q m) = zF σ0 1 4 (mid q m) := hfF _ _ _ (by decide)
    have eha : zF σ 1 4 a = zF σ0 1 4 a := hfF _ _ _ (by decide)
    refine zw_iload dX3_addStepsBy_55 rfl ?_
    refine zw_aload_n dX3_addStepsBy_57 rfl ?_
    refine zw_iload dX3_addStepsBy_58 rfl ?_
    refine zw_callV (y' := zmX2_movesOf) dX3_addStepsBy_60 zlX3_81 zmX2_movesOf_ok (xk_2 h) (by decide) rfl (c_X2_movesOf h hpr.1 (Nat.le_trans hpr.2.1 (by decide)) hq) rfl rfl (Nat.le_of_ble_eq_true rfl) ⟨Nat.le_of_ble_eq_true rfl, Nat.le_of_ble_eq_true rfl⟩ ⟨by show uc + 0 ≤ C; omega, by show us + 0 ≤ S; omega⟩ ?_
    intro v60 s60 q60
    obtain ⟨rfl, z60⟩ := q60
    rw [z60]
    clear z60
    rw [hmc.1]
    refine zw_icmpge (tgt := 152) dX3_addStepsBy_63 (by decide) (fun c63 => ?_) (fun c63 => ?_)
    · exact absurd c63 (nI_ge hmlt (by omega))
    · refine zw_aload_n dX3_addStepsBy_66 rfl ?_
      refine zw_iload dX3_addStepsBy_67 rfl ?_
      refine zw_iload dX3_addStepsBy_69 rfl ?_
      refine zw_callV (y' := zmX2_find) dX3_addStepsBy_71 zlX3_84 zmX2_find_ok (xk_2 h) (by decide) rfl (c_X2_find h hpr.1 (Nat.le_trans hpr.2.1 (by decide)) hq hmc.1 hmlt (Nat.le_trans hmc.2 (by decide)) hb1) rfl rfl (Nat.le_of_ble_eq_true rfl) ⟨Nat.le_of_ble_eq_true rfl, Nat.le_of_ble_eq_true rfl⟩ ⟨by show uc + 0 ≤ C; omega, by show us + 0 ≤ S; omega⟩ ?_
      intro v71 s71 q71
      obtain ⟨rfl, z71⟩ := q71
      rw [z71]
      clear z71
      refine zw_astore dX3_addStepsBy_74 (by decide) rfl ?_
      refine zw_aload dX3_addStepsBy_76 rfl ?_
      refine zw_ifnull dX3_addStepsBy_78 ?_
      refine zw_aload dX3_addStepsBy_81 rfl ?_
      refine zw_getI dX3_addStepsBy_83 zfX3_104 rfl hb2 (by decide) ?_
      refine zw_aload_n dX3_addStepsBy_86 rfl ?_
      refine zw_getI dX3_addStepsBy_87 zfX3_104 rfl hma1 (by decide) ?_
      refine zw_icmpne (tgt := 146) dX3_addStepsBy_90 (by decide) (fun c90 => ?_) (fun c90 => ?_)
      · have hcond : xPair σ0 a (mid q m) k aft = false := by
          unfold xPair
          rw [ehb, eha] at c90
          rw [decide_eq_false c90]
          rfl
        have hstep : xIn σ0 mid a k aft s q (d + 1) m σ = xIn σ0 mid a k aft s q d (m + 1) σ := by
          rw [xIn, hcond]
          rfl
        rw [hstep] at hc1 hc2 hK
        refine zw_iinc dX3_addStepsBy_146 rfl (by decide) rfl ?_
        refine zw_goto (tgt := 55) dX3_addStepsBy_149 (by decide) ?_
        refine zw_loc (lc' := [(0, .ref 8), (1, .ref a), (2, .int (nI s)), (3, .ref 2), (4, .int aft), (5, .int (nI q)), (6, .int (nI m + 1))]) (zsub_cons rfl (zsub_cons rfl (zsub_cons rfl (zsub_cons rfl (zsub_cons rfl (zsub_cons rfl (zsub_cons rfl zsub_nil))))))) ?_
        rw [nI_1]
        refine ih (m + 1) _ pk n T po _ _ (by omega) hj (by omega) (by omega) (by omega) (fun uc' us' e1 e2 => hK uc' us' (by omega) (by omega))
      · refine zw_aload dX3_addStepsBy_93 rfl ?_
        refine zw_aload_n dX3_addStepsBy_95 rfl ?_
        refine zw_getR dX3_addStepsBy_96 zfX3_11 rfl (xk_8 h) (by decide) (xg_3_0 h) ?_
        refine zw_iload_n dX3_addStepsBy_99 rfl ?_
        refine zw_iaload dX3_addStepsBy_100 (xk_9 h) (zin_of (xl_9 h) (vp_in_nI (by omega) (by omega))) ?_
        rw [nI_clamp (n := s) (by omega), hj.2.2.1]
        refine zw_callV (y' := zmX1_isOpenIn) dX3_addStepsBy_101 zlX3_88 zmX1_isOpenIn_ok hb2 (by decide) rfl (c_X1_isOpenIn hb2 _) rfl rfl (Nat.le_of_ble_eq_true rfl) ⟨Nat.le_of_ble_eq_true rfl, Nat.le_of_ble_eq_true rfl⟩ ⟨by show uc + 0 ≤ C; omega, by show us + 0 ≤ S; omega⟩ ?_
        intro v101 s101 q101
        obtain ⟨rfl, z101⟩ := q101
        rw [z101]
        clear z101
        refine zw_ifne (tgt := 110) dX3_addStepsBy_104 (by decide) (fun c104 => ?_) (fun c104 => ?_)
        · refine zw_aload dX3_addStepsBy_110 rfl ?_
          refine zw_iload dX3_addStepsBy_112 rfl ?_
          refine zw_callV (y' := zmX1_afterDeed) dX3_addStepsBy_114 zlX3_98 zmX1_afterDeed_ok hb2 (by decide) rfl (c_X1_afterDeed hb2 _) rfl rfl (Nat.le_of_ble_eq_true rfl) ⟨Nat.le_of_ble_eq_true rfl, Nat.le_of_ble_eq_true rfl⟩ ⟨by show uc + 0 ≤ C; omega, by show us + 0 ≤ S; omega⟩ ?_
          intro v114 s114 q114
          obtain ⟨rfl, z114⟩ := q114
          rw [z114]
          clear z114
          refine zw_istore dX3_addStepsBy_117 (by decide) rfl ?_
          refine zw_iload dX3_addStepsBy_119 rfl ?_
          refine zw_iflt (tgt := 146) dX3_addStepsBy_121 (by decide) (fun c121 => ?_) (fun c121 => ?_)
          · have hcond : xPair σ0 a (mid q m) k aft = false := by
              unfold xPair
              rw [eb2.2.1] at c121
              rw [decide_eq_false (Int32.not_le.mpr c121)]
              simp
            have hstep : xIn σ0 mid a k aft s q (d + 1) m σ = xIn σ0 mid a k aft s q d (m + 1) σ := by
              rw [xIn, hcond]
              rfl
            rw [hstep] at hc1 hc2 hK
            refine zw_iinc dX3_addStepsBy_146 rfl (by decide) rfl ?_
            refine zw_goto (tgt := 55) dX3_addStepsBy_149 (by decide) ?_
            refine zw_loc (lc' := [(0, .ref 8), (1, .ref a), (2, .int (nI s)), (3, .ref 2), (4, .int aft), (5, .int (nI q)), (6, .int (nI m + 1))]) (zsub_cons rfl (zsub_cons rfl (zsub_cons rfl (zsub_cons rfl (zsub_cons rfl (zsub_cons rfl (zsub_cons rfl zsub_nil))))))) ?_
            rw [nI_1]
            refine ih (m + 1) _ pk n T po _ _ (by omega) hj (by omega) (by omega) (by omega) (fun uc' us' e1 e2 => hK uc' us' (by omega) (by omega))
          · refine zw_aload_n dX3_addStepsBy_124 rfl ?_
            refine zw_iload_n dX3_addStepsBy_125 rfl ?_
            refine zw_aload dX3_addStepsBy_126 rfl ?_
            refine zw_iload dX3_addStepsBy_128 rfl ?_
            refine zw_callV (y' := zmX1_afterGoing) dX3_addStepsBy_130 zlX3_101 zmX1_afterGoing_ok hb2 (by decide) rfl (c_X1_afterGoing hb2 _) rfl rfl (Nat.le_of_ble_eq_true rfl) ⟨Nat.le_of_ble_eq_true rfl, Nat.le_of_ble_eq_true rfl⟩ ⟨by show uc + 0 ≤ C; omega, by show us + 0 ≤ S; omega⟩ ?_
            intro v130 s130 q130
            obtain ⟨rfl, z130⟩ := q130
            rw [z130]
            clear z130
            refine zw_aload_n dX3_addStepsBy_133 rfl ?_
            refine zw_callS (y' := zmX3_packedMover) dX3_addStepsBy_134 zlX3_107 zmX3_packedMover_ok (c_X3_packedMover hma1) rfl rfl (Nat.le_of_ble_eq_true rfl) ⟨Nat.le_of_ble_eq_true rfl, Nat.le_of_ble_eq_true rfl⟩ ⟨by show uc + 0 ≤ C; omega, by show us + 0 ≤ S; omega⟩ ?_
            intro v134 s134 q134
            obtain ⟨rfl, z134⟩ := q134
            rw [z134]
            clear z134
            refine zw_aload dX3_addStepsBy_137 rfl ?_
            refine zw_callS (y' := zmX3_packedOther) dX3_addStepsBy_139 zlX3_118 zmX3_packedOther_ok (c_X3_packedOther hb2) rfl rfl (Nat.le_of_ble_eq_true rfl) ⟨Nat.le_of_ble_eq_true rfl, Nat.le_of_ble_eq_true rfl⟩ ⟨by show uc + 0 ≤ C; omega, by show us + 0 ≤ S; omega⟩ ?_
            intro v139 s139 q139
            obtain ⟨rfl, z139⟩ := q139
            rw [z139]
            clear z139
            refine zw_ior dX3_addStepsBy_142 ?_
            rw [eb2.2.1, (xOpen_fr hfF (mid q m) (xAD σ0 (mid q m) aft)).2.2.1, ea.2.2.2.1, eb.2.2.2.2.1]
            have hcond : xPair σ0 a (mid q m) k aft = true := by
              unfold xPair
              rw [ehb, eha] at c90
              rw [zb_1, eb.1] at c104
              rw [eb2.2.1] at c121
              rw [decide_eq_true c90, c104, decide_eq_true (Int32.not_lt.mp c121)]
              rfl
            have hstep : xIn σ0 mid a k aft s q (d + 1) m σ = xIn σ0 mid a k aft s q d (m + 1) (xStp σ s (xAG σ0 (mid q m) (xAD σ0 (mid q m) aft)) (xPm σ0 a ||| xPb σ0 (mid q m))) := by
              rw [xIn, hcond]
              rfl
            rw [hstep] at hc1 hc2 hK
            obtain ⟨pk1, n1, T1, po1, hj1, hto⟩ := xJ_stp hj (by omega) (xAG σ0 (mid q m) (xAD σ0 (mid q m) aft)) (xPm σ0 a ||| xPb σ0 (mid q m))
            obtain ⟨pk2, n2, T2, po2, hj2, hto2⟩ := xJ_in (mid := mid) (a := a) (aft := aft) (q := q) d (m + 1) hj1 (by have := hto.2.2.2.1; omega)
            have hz1 := hto.zn
            have hz2 := hto2.zn
            have hl1 := hto.len hj hj1
            have hl2 := hto2.len hj1 hj2
            refine zw_callV (y' := zmX3_addStep) dX3_addStepsBy_143 zlX3_111 zmX3_addStep_ok (xk_8 h) (by decide) rfl (c_X3_addStep hj.1 (by omega) hs) rfl rfl (Nat.le_of_ble_eq_true rfl) ⟨Nat.le_of_ble_eq_true rfl, Nat.le_of_ble_eq_true rfl⟩ ⟨by show _ ≤ C; omega, by show _ ≤ S; omega⟩ ?_
            intro v143 s143 q143
            obtain ⟨rfl, z143⟩ := q143
            rw [z143]
            clear z143
            
            refine zw_iinc dX3_addStepsBy_146 rfl (by decide) rfl ?_
            refine zw_goto (tgt := 55) dX3_addStepsBy_149 (by decide) ?_
            refine zw_loc (lc' := [(0, .ref 8), (1, .ref a), (2, .int (nI s)), (3, .ref 2), (4, .int aft), (5, .int (nI q)), (6, .int (nI m + 1))]) (zsub_cons rfl (zsub_cons rfl (zsub_cons rfl (zsub_cons rfl (zsub_cons rfl (zsub_cons rfl (zsub_cons rfl zsub_nil))))))) ?_
            rw [nI_1]
            refine ih (m + 1) _ pk1 n1 T1 po1 _ _ (by omega) hj1 (by have := hto.2.2.2.1; omega) (by omega) (by omega) (fun uc' us' e1 e2 => hK uc' us' (by omega) (by omega))
        · refine zw_goto (tgt := 146) dX3_addStepsBy_107 (by decide) ?_
          have hcond : xPair σ0 a (mid q m) k aft = false := by
            unfold xPair
            rw [zb_0, eb.1] at c104
            rw [c104]
            simp
          have hstep : xIn σ0 mid a k aft s q (d + 1) m σ = xIn σ0 mid a k aft s q d (m + 1) σ := by
            rw [xIn, hcond]
            rfl
          rw [hstep] at hc1 hc2 hK
          refine zw_iinc dX3_addStepsBy_146 rfl (by decide) rfl ?_
          refine zw_goto (tgt := 55) dX3_addStepsBy_149 (by decide) ?_
          refine zw_loc (lc' := [(0, .ref 8), (1, .ref a), (2, .int (nI s)), (3, .ref 2), (4, .int aft), (5, .int (nI q)), (6, .int (nI m + 1))]) (zsub_cons rfl (zsub_cons rfl (zsub_cons rfl (zsub_cons rfl (zsub_cons rfl (zsub_cons rfl (zsub_cons rfl zsub_nil))))))) ?_
          rw [nI_1]
          refine ih (m + 1) _ pk n T po _ _ (by omega) hj (by omega) (by omega) (by omega) (fun uc' us' e1 e2 => hK uc' us' (by omega) (by omega))
set_option maxHeartbeats 4000000 in
set_option maxRecDepth 100000 in
theorem lp_By_out {l : Launch} {σ0 : zS} {P p0 s a : Nat} {k aft : Int32} {mc : Nat → Nat} {mid : Nat → Nat → Nat} (h0 : xSh σ0) (hp0 : p0 = 16 ∨ 30 ≤ p0) (hpro : xPro σ0 P mc mid) (hma : zK σ0 a = 1) (hs : s < 400) {C S : Nat} {Q : Option Value → zS → Prop} :
    ∀ (d q : Nat) (σ : zS) (pk n T : Nat) (po : Nat → Nat) (uc us : Nat), q + d = P → xJ σ0 p0 s k σ pk n T po → T + 6 * d ≤ 512000 → uc + (zn (xOut σ0 mc mid a k aft s d q σ) - zn σ) ≤ C → us + 2 * (xLen (xOut σ0 mc mid a k aft s d q σ) - xLen σ) ≤ S → Q none (xOut σ0 mc mid a k aft s d q σ) →
    zAW l zmX3_addStepsBy { frames := 3, cells := C, slots := S, locals := 86 } 43 [(0, .ref 8), (1, .ref a), (2, .int (nI s)), (3, .ref 2), (4, .int aft), (5, .int (nI q))] [] σ uc us Q := by
  intro d
  induction d with
  | zero =>
    intro q σ pk n T po uc us hd hj hT hc1 hc2 hQ
    have hd : q = P := hd
    subst hd
    have h := hj.1.1
    have hpr := hpro.fr h0 hp0 hj.2.1
    refine zw_iload dX3_addStepsBy_43 rfl ?_
    refine zw_aload_n dX3_addStepsBy_45 rfl ?_
    refine zw_getI dX3_addStepsBy_46 zfX3_78 rfl (xk_2 h) (by decide) ?_
    rw [show zF σ 2 5 2 = nI q from hpr.1]
    refine zw_icmpge (tgt := 158) dX3_addStepsBy_49 (by decide) (fun c49 => ?_) (fun c49 => ?_)
    · refine zw_vret dX3_addStepsBy_158 rfl ?_
      exact hQ
    · exact absurd (nI_le (Nat.le_refl q) (by have := hpr.2.1; omega)) c49
  | succ d ih =>
    intro q σ pk n T po uc us hd hj hT hc1 hc2 hQ
    have h := hj.1.1
    have hpr := hpro.fr h0 hp0 hj.2.1
    have hP5 := hpr.2.1
    have hmc := hpr.2.2.1 q (by omega)
    obtain ⟨pk1, n1, T1, po1, hj1, hto⟩ := xJ_in (mid := mid) (a := a) (aft := aft) (q := q) (mc q) 0 hj (by omega)
    obtain ⟨pk2, n2, T2, po2, hj2, hto2⟩ := xJ_out (mc := mc) (mid := mid) (a := a) (aft := aft) d (q + 1) (fun q' g1 g2 => (hpr.2.2.1 q' (by omega)).2) hj1 (by have := hto.2.2.2.1; omega)
    have hz1 := hto.zn
    have hz2 := hto2.zn
    have hl1 := hto.len hj hj1
    have hl2 := hto2.len hj1 hj2
    rw [xOut] at hc1 hc2 hQ
    refine zw_iload dX3_addStepsBy_43 rfl ?_
    refine zw_aload_n dX3_addStepsBy_45 rfl ?_
    refine zw_getI dX3_addStepsBy_46 zfX3_78 rfl (xk_2 h) (by decide) ?_
    rw [show zF σ 2 5 2 = nI P from hpr.1]
    refine zw_icmpge (tgt := 158) dX3_addStepsBy_49 (by decide) (fun c49 => ?_) (fun c49 => ?_)
    · exact absurd c49 (nI_ge (show q < P by omega) (by omega))
    · refine zw_iconst (x := 0) dX3_addStepsBy_52 rfl ?_
      refine zw_istore dX3_addStepsBy_53 (by decide) rfl ?_
      refine zw_loc (lc' := [(0, .ref 8), (1, .ref a), (2, .int (nI s)), (3, .ref 2), (4, .int aft), (5, .int (nI q)), (6, .int (nI 0))]) (zsub_cons rfl (zsub_cons rfl (zsub_cons rfl (zsub_cons rfl (zsub_cons rfl (zsub_cons rfl (zsub_cons rfl zsub_nil))))))) ?_
      refine lp_By_in h0 hp0 hpro hma (by omega) hs (mc q) 0 σ pk n T po _ _ (Nat.zero_add _) hj (by omega) (by omega) (by omega) (fun uc1 us1 e1 e2 => ?_)
      refine zw_iinc dX3_addStepsBy_152 rfl (by decide) rfl ?_
      refine zw_goto (tgt := 43) dX3_addStepsBy_155 (by decide) ?_
      refine zw_loc (lc' := [(0, .ref 8), (1, .ref a), (2, .int (nI s)), (3, .ref 2), (4, .int aft), (5, .int (nI q + 1))]) (zsub_cons rfl (zsub_cons rfl (zsub_cons rfl (zsub_cons rfl (zsub_cons rfl (zsub_cons rfl zsub_nil)))))) ?_
      rw [nI_1]
      exact ih (q + 1) _ pk1 n1 T1 po1 _ _ (by omega) hj1 (by have := hto.2.2.2.1; omega) (by omega) (by omega) hQ
set_option maxHeartbeats 4000000 in
set_option maxRecDepth 100000 in
theorem c_X3_addStepsBy {l : Launch} {σ : zS} {σ0 : zS} {P p0 s pa ma pk n T : Nat} {k : Int32} {po mc : Nat → Nat} {mid : Nat → Nat → Nat} (h0 : xSh σ0) (hp0 : p0 = 16 ∨ 30 ≤ p0) (hpro : xPro σ0 P mc mid) (hpa : pa < P) (hma : ma < mc pa) (hs : s < 400) (hj : xJ σ0 p0 s k σ pk n T po) (hT : T + 18 ≤ 512000) : zAM l zmX3_addStepsBy 3 86 (zn (xBy σ0 P mc mid pa (mid pa ma) k s σ) - zn σ) (2 * (xLen (xBy σ0 P mc mid pa (mid pa ma) k s σ) - xLen σ)) [.ref 8, .ref (mid pa ma), .int (nI s), .ref 2] σ (fun v σ' => v = none ∧ σ' = xBy σ0 P mc mid pa (mid pa ma) k s σ) := by
  refine zAM.of (by decide +kernel) (Nat.le_of_ble_eq_true rfl) ?_
  have h := hj.1.1
  have hpr := hpro.fr h0 hp0 hj.2.1
  have hP5 := hpr.2.1
  have hfF := hj.2.1.2.2.2.2.1
  obtain ⟨-, hm0, hm0p, -⟩ := hpro.2.2.2 pa ma hpa hma
  obtain ⟨hx1, hm1, hm1p, -⟩ := hpr.2.2.2 pa ma hpa hma
  have ea := xOpen_fr hfF (mid pa ma) k
  have eha : zF σ 1 4 (mid pa ma) = zF σ0 1 4 (mid pa ma) := hfF _ _ _ (by decide)
  refine zw_aload_n dX3_addStepsBy_0 rfl ?_
  refine zw_aload_n dX3_addStepsBy_1 rfl ?_
  refine zw_aload_n dX3_addStepsBy_2 rfl ?_
  refine zw_getR dX3_addStepsBy_3 zfX3_11 rfl (xk_8 h) (by decide) (xg_3_0 h) ?_
  refine zw_iload_n dX3_addStepsBy_6 rfl ?_
  refine zw_iaload dX3_addStepsBy_7 (xk_9 h) (zin_of (xl_9 h) (vp_in_nI (by omega) (by omega))) ?_
  rw [nI_clamp (n := s) (by omega), hj.2.2.1]
  refine zw_callV (y' := zmX1_afterDeed) dX3_addStepsBy_8 zlX3_98 zmX1_afterDeed_ok hm1 (by decide) rfl (c_X1_afterDeed hm1 _) rfl rfl (Nat.le_of_ble_eq_true rfl) ⟨Nat.le_of_ble_eq_true rfl, Nat.le_of_ble_eq_true rfl⟩ ⟨Nat.zero_le _, Nat.zero_le _⟩ ?_
  intro v8 s8 q8
  obtain ⟨rfl, z8⟩ := q8
  rw [z8]
  clear z8
  refine zw_callV (y' := zmX1_afterGoing) dX3_addStepsBy_11 zlX3_101 zmX1_afterGoing_ok hm1 (by decide) rfl (c_X1_afterGoing hm1 _) rfl rfl (Nat.le_of_ble_eq_true rfl) ⟨Nat.le_of_ble_eq_true rfl, Nat.le_of_ble_eq_true rfl⟩ ⟨Nat.zero_le _, Nat.zero_le _⟩ ?_
  intro v11 s11 q11
  obtain ⟨rfl, z11⟩ := q11
  rw [z11]
  clear z11
  rw [ea.2.1, (xOpen_fr hfF (mid pa ma) (xAD σ0 (mid pa ma) k)).2.2.1]
  refine zw_istore dX3_addStepsBy_14 (by decide) rfl ?_
  refine zw_aload_n dX3_addStepsBy_16 rfl ?_
  refine zw_getI dX3_addStepsBy_17 zfX3_104 rfl hm1 (by decide) ?_
  refine zw_ifne (tgt := 35) dX3_addStepsBy_20 (by decide) (fun c20 => ?_) (fun c20 => ?_)
  · have hby : xBy σ0 P mc mid pa (mid pa ma) k s σ = xOut σ0 mc mid (mid pa ma) k (xAG σ0 (mid pa ma) (xAD σ0 (mid pa ma) k)) s (P - (pa + 1)) (pa + 1) σ := by
      unfold xBy
      rw [eha] at c20
      rw [if_neg c20]
    refine zw_aload_n dX3_addStepsBy_35 rfl ?_
    refine zw_getI dX3_addStepsBy_36 zfX3_115 rfl hm1 (by decide) ?_
    refine zw_iconst (x := 1) dX3_addStepsBy_39 rfl ?_
    refine zw_iadd dX3_addStepsBy_40 ?_
    refine zw_istore dX3_addStepsBy_41 (by decide) rfl ?_
    rw [hm1p, nI_1]
    refine zw_loc (lc' := [(0, .ref 8), (1, .ref (mid pa ma)), (2, .int (nI s)), (3, .ref 2), (4, .int (xAG σ0 (mid pa ma) (xAD σ0 (mid pa ma) k))), (5, .int (nI (pa + 1)))]) (zsub_cons rfl (zsub_cons rfl (zsub_cons rfl (zsub_cons rfl (zsub_cons rfl (zsub_cons rfl zsub_nil)))))) ?_
    rw [hby]
    exact lp_By_out h0 hp0 hpro hm0 hs (P - (pa + 1)) (pa + 1) σ pk n T po _ _ (by omega) hj (by omega) (by omega) (by omega) ⟨rfl, rfl⟩
  · have hby : xBy σ0 P mc mid pa (mid pa ma) k s σ = xStp σ s (xAG σ0 (mid pa ma) (xAD σ0 (mid pa ma) k)) (xPm σ0 (mid pa ma)) := by
      unfold xBy
      rw [eha] at c20
      rw [if_pos c20]
    refine zw_aload_n dX3_addStepsBy_23 rfl ?_
    refine zw_iload_n dX3_addStepsBy_24 rfl ?_
    refine zw_iload dX3_addStepsBy_25 rfl ?_
    refine zw_aload_n dX3_addStepsBy_27 rfl ?_
    refine zw_callS (y' := zmX3_packedMover) dX3_addStepsBy_28 zlX3_107 zmX3_packedMover_ok (c_X3_packedMover hm1) rfl rfl (Nat.le_of_ble_eq_true rfl) ⟨Nat.le_of_ble_eq_true rfl, Nat.le_of_ble_eq_true rfl⟩ ⟨Nat.zero_le _, Nat.zero_le _⟩ ?_
    intro v28 s28 q28
    obtain ⟨rfl, z28⟩ := q28
    rw [z28]
    clear z28
    rw [ea.2.2.2.1]
    refine zw_callV (y' := zmX3_addStep) dX3_addStepsBy_31 zlX3_111 zmX3_addStep_ok (xk_8 h) (by decide) rfl (c_X3_addStep hj.1 (by omega) hs) rfl rfl (Nat.le_of_ble_eq_true rfl) ⟨Nat.le_of_ble_eq_true rfl, Nat.le_of_ble_eq_true rfl⟩ ⟨by show _ ≤ zn (xBy σ0 P mc mid pa (mid pa ma) k s σ) - zn σ; rw [hby]; omega, by show _ ≤ 2 * (xLen (xBy σ0 P mc mid pa (mid pa ma) k s σ) - xLen σ); rw [hby]; omega⟩ ?_
    intro v31 s31 q31
    obtain ⟨rfl, z31⟩ := q31
    rw [z31]
    clear z31
    refine zw_vret dX3_addStepsBy_34 rfl ?_
    exact ⟨rfl, hby.symm⟩
