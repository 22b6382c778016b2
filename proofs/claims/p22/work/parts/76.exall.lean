/-! the class's exploring, as the law sees it -/
def mcs (mvs : List (List hMv)) : Nat → Nat := fun p => ((mvs[p]?).getD []).length
theorem mcs_at {mvs : List (List hMv)} {p : Nat} {ms : List hMv} (h : mvs[p]? = some ms) : mcs mvs p = ms.length := by
  unfold mcs
  rw [h]
  rfl
theorem bC_rAll {σ : zS} {ls G B : List Int32} {mvs : List (List hMv)} {mid : Nat → Nat → Nat} (bc : bC σ ls G B mvs mid) (go : gOk G B) (mo : mOk mvs G.length) (h3 : ls.length ≤ 3) (h2 : G.length ≤ 2) : rAll σ ls.length G mvs (mcs mvs) mid := by
  have at5 : ∀ p, p < ls.length → ∃ ms, mvs[p]? = some ms := fun p hp => ⟨mvs[p]'(by have := mo.1; omega), List.getElem?_eq_getElem _⟩
  refine ⟨⟨bc.2.1.1, h3, fun p hp => ?_, fun p m hp hm => ?_⟩, h2, fun v hv => ?_, by have := mo.1; omega, fun p ms hp hq => ⟨(mcs_at hq).symm, fun m o hm => ?_⟩⟩
  · obtain ⟨ms, e⟩ := at5 p hp
    rw [mcs_at e]
    exact ⟨(bc.2.2.2.1 p ms e).1, (mo.2 p ms e).1⟩
  · obtain ⟨ms, e⟩ := at5 p hp
    rw [mcs_at e] at hm
    obtain ⟨m1, m2, m3, m4, -⟩ := (bc.2.2.2.1 p ms e).2 m ms[m] (List.getElem?_eq_getElem hm)
    exact ⟨m1, m2, m3, m4⟩
  · obtain ⟨g, b, g1, g3, -, e, -⟩ := go.2 v hv
    exact ⟨g, by omega, e⟩
  · exact ⟨((bc.2.2.2.1 p ms hq).2 m o hm).2.2.2.2, (mo.2 p ms hq).2 o (List.mem_of_getElem? hm)⟩
theorem mOk_hMvs {mvs : List (List hMv)} {G : List Int32} {P : Nat} (mo : mOk mvs G.length) (h3 : P ≤ 3) : hMvs P G mvs := by
  refine ⟨by have := mo.1; omega, fun b hb => ?_⟩
  have hl : b < mvs.length := by have := mo.1; omega
  refine ⟨mvs[b], List.getElem?_eq_getElem hl, (mo.2 b _ (List.getElem?_eq_getElem hl)).1, fun o ho => ?_⟩
  obtain ⟨-, -, o3, -, -, o6, -⟩ := (mo.2 b _ (List.getElem?_eq_getElem hl)).2 o ho
  exact ⟨o3, o6⟩
theorem mOk_pos {mvs : List (List hMv)} {V : Nat} (mo : mOk mvs V) : ∀ (a : Nat) (ms : List hMv), mvs[a]? = some ms → ∀ o : hMv, o ∈ ms → 0 ≤ o.h := fun a ms hq o ho => ((mo.2 a ms hq).2 o ho).2.2.2.2.2.2.2
/-- the beginning's key -/
theorem hB0_at {L : Nat} {B : List Int32} : (∀ i, i < L → (hB0 L B)[i]? = some 0) ∧ ∀ j, (hB0 L B)[L + j]? = B[j]? := by
  unfold hB0
  refine ⟨fun i hi => ?_, fun j => ?_⟩
  · rw [List.getElem?_append_left (by rw [List.length_replicate]; exact hi), List.getElem?_replicate, if_pos hi]
  · rw [List.getElem?_append_right (by rw [List.length_replicate]; omega), List.length_replicate, show L + j - L = j by omega]
theorem hB0_ext {L : Nat} {B st : List Int32} (h1 : ∀ i, i < L → st[i]? = some 0) (h2 : ∀ j, st[L + j]? = B[j]?) : st = hB0 L B := by
  refine List.ext_getElem? (fun i => ?_)
  by_cases e : i < L
  · rw [h1 i e, hB0_at.1 i e]
  · have e1 := h2 (i - L)
    have e2 := (hB0_at (L := L) (B := B)).2 (i - L)
    rw [show L + (i - L) = i by omega] at e1 e2
    rw [e1, e2]
theorem hB0_ok {L : Nat} {G B : List Int32} (go : gOk G B) : rOk L G.length (hB0 L B) := by
  refine ⟨by unfold hB0; rw [List.length_append, List.length_replicate, go.1], fun i hi => ?_⟩
  by_cases e : i < L
  · exact ⟨0, by decide, hB0_at.1 i e⟩
  · obtain ⟨g, b, -, g3, hb, -, eb⟩ := go.2 (i - L) (by omega)
    have e2 := (hB0_at (L := L) (B := B)).2 (i - L)
    rw [show L + (i - L) = i by omega] at e2
    exact ⟨b, by omega, by rw [e2]; exact eb⟩
theorem xKb_enc {σ : zS} {L : Nat} {G B : List Int32} (hL : L ≤ 3) (hV : G.length ≤ 2) (go : gOk G B) (h7 : ∀ (v : Nat) (x : Int32), B[v]? = some x → zI σ 7 v = x) : ∀ (d v : Nat) (st : List Int32), v + d = G.length → rOk L G.length st → (∀ i, i < L → st[i]? = some 0) → (∀ j, j < v → st[L + j]? = B[j]?) → xKb σ d v (enc L G.length st) = enc L G.length (hB0 L B)
  | 0, v, st, hd, hst, h1, h2 => by
    have e : st = hB0 L B := hB0_ext h1 (fun j => by
      by_cases q : j < v
      · exact h2 j q
      · rw [List.getElem?_eq_none (by rw [hst.1]; omega), List.getElem?_eq_none (by rw [go.1]; omega)])
    rw [e]
    rfl
  | d + 1, v, st, hd, hst, h1, h2 => by
    obtain ⟨g, b, -, g3, hb, -, eb⟩ := go.2 v (by omega)
    have hl := hst.1
    show xKb σ d (v + 1) (xWVal (enc L G.length st) (nI v) (zI σ 7 v)) = _
    rw [h7 v _ eb, enc_wval hst hL hV (by omega) (by omega)]
    refine xKb_enc hL hV go h7 d (v + 1) _ (by omega) (rOk_set hst (by omega)) (fun i hi => ?_) (fun j hj => ?_)
    · rw [List.getElem?_set, if_neg (by omega)]
      exact h1 i hi
    · rw [List.getElem?_set]
      by_cases e : L + v = L + j
      · rw [if_pos e, if_pos (by omega), show j = v by omega, eb]
      · rw [if_neg e]
        exact h2 j (by omega)
theorem enc_rep {L V : Nat} : enc L V (List.replicate (L + V) 0) = 0 ∧ rOk L V (List.replicate (L + V) 0) := by
  have e : ∀ i, eN (List.replicate (L + V) 0) i = 0 := fun i => by
    unfold eN
    rw [List.getElem?_replicate]
    by_cases q : i < L + V
    · rw [if_pos q]; rfl
    · rw [if_neg q]; rfl
  have e2 : eC L V (List.replicate (L + V) 0) = fun _ => 0 := by
    funext i
    unfold eC
    rw [e, e]
    split <;> split <;> rfl
  refine ⟨?_, List.length_replicate, fun i hi => ⟨0, by decide, ?_⟩⟩
  · unfold enc
    rw [e2]
    rfl
  · rw [List.getElem?_replicate, if_pos hi]
    rfl
/-- of the class, what the law wants besides -/
def cR (σ : zS) (ls G : List Int32) : Prop := xSh σ ∧ xP σ = nI ls.length ∧ xV σ = nI G.length ∧ (∀ (p : Nat) (x : Int32), ls[p]? = some x → zI σ 3 p = x) ∧ zL σ 0 < 2 ^ 31
def exPost (σ σ' : zS) (r : Int32) (ls G : List Int32) (rows : List (List Int32)) : Prop :=
  zC σ σ' ∧ (cR σ' ls G ∧ xFz σ' = nI 0 ∧ zF σ' 4 11 21 = -1) ∧ ((400 < rows.length ∧ r = -1) ∨ (rows.length ≤ 400 ∧ r = nI rows.length ∧ ∃ pk fs dep par pst E, xEx σ' ls.length pk rows.length fs dep par pst E ∧ xKeys σ' rows.length = rows.map (enc ls.length G.length)))
theorem ex_all {σ : zS} {ls G B : List Int32} {mvs : List (List hMv)} {mid : Nat → Nat → Nat} (hw : zWF σ) (bc : bC σ ls G B mvs mid) (go : gOk G B) (mo : mOk mvs G.length) (h1 : 1 ≤ ls.length) (h3 : ls.length ≤ 3) (h2 : G.length ≤ 2) {f : zS} (hf : f = xFl σ ls.length (mcs mvs) mid 400 0 (xBg σ (xKb σ G.length 0 0))) :
    (zn f - zn σ ≤ 257152 ∧ 2 * (xLen f - xLen σ) ≤ 514304) ∧ exPost σ (xEnd f) (xAns f) ls G (hBf ls.length G mvs 400 0 [hB0 ls.length B]) := by
  have hr := bC_rAll bc go mo h3 h2
  obtain ⟨⟨b1, b2, b3, b00⟩, ⟨b4, b5⟩, ⟨b6, b7, b8⟩, -, b10, b11⟩ := bc
  have hk : xKb σ G.length 0 0 = enc ls.length G.length (hB0 ls.length B) := by
    have e0 := (enc_rep (L := ls.length) (V := G.length))
    rw [← e0.1]
    exact xKb_enc h3 h2 go b8 G.length 0 _ (Nat.zero_add _) e0.2 (fun i hi => by rw [List.getElem?_replicate, if_pos (by omega)]) (fun j hj => absurd hj (Nat.not_lt_zero j))
  obtain ⟨po, hG⟩ := xBg_G b1 b2 hw (by omega) (by omega) (xKb σ G.length 0 0)
  obtain ⟨eB, eB0, ek⟩ := xBg_E (P := ls.length) (σ := σ) (pk := 16) (k := xKb σ G.length 0 0)
  obtain ⟨z, -⟩ := xFl_z hr.1 400 0 hG.1 (by decide)
  obtain ⟨pkf, nf, Tf, pof, hGf, -, -⟩ := xG_fl (mid := mid) h3 (fun q hq => (hr.1.2.2.1 q hq).2) 400 0 (Nat.zero_add _) hG (by decide)
  obtain ⟨c1, c2⟩ := xFl_E hr.1 400 0 (Nat.zero_add _) hG.1 eB eB0 (by decide)
  obtain ⟨z2, pkz, nz, Tz, poz, iz, tz⟩ := xFl_z hr.1 400 0 hG.1 (by decide)
  have sim := hBf_sim hr (hB0_ok (L := ls.length) go) 400
  rw [ek, hk, ← sim, List.length_map] at c1 c2
  rw [← hk, ← hf] at c1 c2
  rw [← hf] at z hGf iz z2
  have hlen : xLen f ≤ 259200 := by
    rw [xLen_eq iz.2.1]
    have := iz.2.2.2.2.2.2.2.2.1
    omega
  have hl0 : xLen (xBg σ (xKb σ G.length 0 0)) = 2048 := by
    show xLen σ = 2048
    rw [xLen_eq b2]; exact b3
  have hn0 : zn (xBg σ (xKb σ G.length 0 0)) = zn σ := rfl
  have hl1 : xLen σ = 2048 := by rw [xLen_eq b2]; exact b3
  obtain ⟨zz1, zz2, zz3⟩ := z
  rw [hl0, hn0] at zz1
  refine ⟨⟨by omega, by omega⟩, ?_⟩
  -- what stays
  have fr := hGf.2
  have keep : ∀ g : zS, (zK g = zK f ∧ zL g = zL f ∧ zG g = zG f ∧ zI g = zI f ∧ zR g = zR f ∧ zn g = zn f) → (∀ c k a, c ≠ 3 → zF g c k a = zF f c k a) → zC σ g ∧ cR g ls G ∧ xFz g = nI 0 ∧ zF g 4 11 21 = -1 := by
    rintro g ⟨e1, e2, e3, e4, e5, e6⟩ e7
    have hc := fr.c
    obtain ⟨f1, f2, f3, f4, f5, f6, f7, f8, f9⟩ := fr
    refine ⟨⟨by rw [e6]; exact hc.1, fun a ha hlt k1 k9 => ?_⟩, ⟨⟨fun q hq => by rw [e1]; exact hGf.1.1.1 q hq, fun q hq => by rw [e2]; exact hGf.1.1.2.1 q hq, fun q hq => by rw [e3]; exact hGf.1.1.2.2 q hq⟩, ?_, ?_, fun p x hx => ?_, ?_⟩, ?_, ?_⟩
    · obtain ⟨q1, q2, q3, q4, q5⟩ := hc.2 a ha hlt k1 k9
      rw [e1, e2, e4, e5, e3]
      exact ⟨q1, q2, q3, q4, q5⟩
    · exact (e7 2 5 2 (by decide)).trans ((f5 2 5 2 (by decide)).trans b4)
    · exact (e7 2 6 2 (by decide)).trans ((f5 2 6 2 (by decide)).trans b5)
    · rw [e4, f7 3 (by rw [xk_3 b1]; decide) (by decide) (by decide)]
      exact b6 p x hx
    · rw [e2, f4 0 (by rw [hw.2.1]; decide)]
      exact b00
    · exact (e7 0 3 17 (by decide)).trans ((f5 0 3 17 (by decide)).trans b10)
    · exact (e7 4 11 21 (by decide)).trans ((f5 4 11 21 (by decide)).trans b11)
  by_cases hl : (hBf ls.length G mvs 400 0 [hB0 ls.length B]).length ≤ 400
  · obtain ⟨pk', n', T', po', d1, d2, d3, d4, d5, d6⟩ := c1 hl
    have eE : xEnd f = f := if_pos d4
    have eA : xAns f = xS f := if_pos d4
    obtain ⟨k1, k2, k3, k4⟩ := keep f ⟨rfl, rfl, rfl, rfl, rfl, rfl⟩ (fun _ _ _ _ => rfl)
    rw [eE, eA]
    have hn1 : 1 ≤ n' := by
      have q := kBf_le (σ0 := σ) (P := ls.length) (mc := mcs mvs) (mid := mid) 400 0 [enc ls.length G.length (hB0 ls.length B)]
      rw [← sim, List.length_map, ← d1] at q
      exact q
    obtain ⟨fs, dep, par, pst, E, hx⟩ := xEx_of d2 d3 hn1 (by omega) k2.2.1 h3
    rw [d1] at hx d5
    refine ⟨k1, ⟨k2, k3, k4⟩, Or.inr ⟨hl, ?_, pk', fs, dep, par, pst, E, hx, d5⟩⟩
    rw [d2.2.2.2.1, d1]
  · have hfl := c2 (Nat.lt_of_not_le hl)
    have hne : ¬ zF f 3 10 8 = 0 := by rw [hfl]; decide
    have eE : xEnd f = zsF (zsF (zsF f 3 8 8 0) 3 9 8 0) 3 10 8 0 := if_neg hne
    have eA : xAns f = -1 := if_neg hne
    obtain ⟨k1, k2, k3, k4⟩ := keep (zsF (zsF (zsF f 3 8 8 0) 3 9 8 0) 3 10 8 0) ⟨rfl, rfl, rfl, rfl, rfl, rfl⟩ (fun c k a hc => Fg_F hc)
    rw [eE, eA]
    exact ⟨k1, ⟨k2, k3, k4⟩, Or.inl ⟨Nat.lt_of_not_le hl, rfl⟩⟩
