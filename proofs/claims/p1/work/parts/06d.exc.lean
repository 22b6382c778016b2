/-! throws: cells that are nobody's, contracts of methods that may throw, handlers -/
/-- n cells more, of which nothing is known -/
def zPad (σ : zS) (n : Nat) : zS := (fun a => if zn σ ≤ a ∧ a < zn σ + n then 998 else zK σ a, zL σ, zF σ, zG σ, zI σ, zR σ, zJ σ, zn σ + n)
theorem zK_zPad (σ : zS) (n a : Nat) : zK (zPad σ n) a = if zn σ ≤ a ∧ a < zn σ + n then 998 else zK σ a := (rfl)
theorem zL_zPad (σ : zS) (n : Nat) : zL (zPad σ n) = zL σ := (rfl)
theorem zF_zPad (σ : zS) (n : Nat) : zF (zPad σ n) = zF σ := (rfl)
theorem zG_zPad (σ : zS) (n : Nat) : zG (zPad σ n) = zG σ := (rfl)
theorem zI_zPad (σ : zS) (n : Nat) : zI (zPad σ n) = zI σ := (rfl)
theorem zR_zPad (σ : zS) (n : Nat) : zR (zPad σ n) = zR σ := (rfl)
theorem zJ_zPad (σ : zS) (n : Nat) : zJ (zPad σ n) = zJ σ := (rfl)
theorem zn_zPad (σ : zS) (n : Nat) : zn (zPad σ n) = zn σ + n := (rfl)
theorem zK_pad {σ : zS} {n a c : Nat} (h : zK σ a = c) (hw : zWF σ) (hc : c ≠ 999) : zK (zPad σ n) a = c := by
  have := zWF_lt hw h hc
  rw [zK_zPad, if_neg (by omega)]
  exact h
theorem zRep.pad {D : va_G} {dt : Nat → ClassId} {b b0 : Nat} {σ : zS} {U : State} {H H1 : Heap} (h : zRep D dt b b0 σ U H) {n : Nat} (hz : H1.size = H.size + n) (ho : ∀ x, x < H.size → H1[x]? = H[x]?) : zRep D dt b b0 (zPad σ n) U H1 := by
  have hpos := h.1.1
  refine ⟨⟨by rw [zn_zPad]; omega, ?_, fun a ha => ?_⟩, by rw [hz, zn_zPad, h.2.1]; omega, h.2.2.1, fun k k0 kn kq => ?_, ?_, h.2.2.2.2.2.kept (fun x hx _ => ho x hx)⟩
  · rw [zK_zPad, if_neg (by omega)]
    exact h.1.2.1
  · rw [zn_zPad] at ha
    rw [zK_zPad, if_neg (by omega)]
    exact h.1.2.2 a (by omega)
  · rw [zn_zPad] at kn
    rw [zK_zPad] at kq
    by_cases c1 : zn σ ≤ k ∧ k < zn σ + n
    · rw [if_pos c1] at kq
      exact absurd rfl kq
    · rw [if_neg c1] at kq
      exact zAt.kept (zAt.same (σ' := zPad σ n) (h.2.2.2.1 k k0 (by omega) kq) (by rw [zK_zPad, if_neg c1]) rfl (fun _ _ => rfl) (fun _ _ => rfl) rfl rfl rfl) (ho _ (by rw [h.2.1]; omega))
  · exact h.2.2.2.2.1.kept (ho b (by have := h.2.2.1; rw [h.2.1]; omega))
/-- a method's contract that answers or throws: a throw of the exception k stands in Q as a float -/
def zAX (l : Launch) (y : zM) (F Lc mc ms : Nat) (av : List Value) (σ : zS) (Q : Option Value → zS → Prop) : Prop :=
  ∀ (D : va_G) (dt : Nat → ClassId) (b b0 : Nat), vx_Met l y.1 (zW y) { frames := F, cells := mc, slots := ms, locals := Lc }
    (va_Pc (av.map (zv (zg b b0))) (fun U => zRep D dt b b0 σ U U.heap ∧ zKK D dt U ∧ b0 + 1 ≤ U.heap.size))
    (fun _ st o t => (∃ v σ', o = .returned (v.map (zv (zg b b0))) ∧ Q v σ' ∧ (∀ k, v ≠ some (.float k)) ∧ zRep D dt b b0 σ' t t.heap) ∧ va_F (fun q => b0 < q) st t)
    (fun E st t => (∃ k σ' n, E = zEx k ∧ Q (some (.float k)) σ' ∧ zRep D dt b b0 (zPad σ' n) t t.heap) ∧ va_F (fun q => b0 < q) st t)
    mc ms (fun q => b0 < q)
/-- a contract of a method with handlers, that answers -/
def zAH (l : Launch) (y : zM) (F Lc mc ms : Nat) (av : List Value) (σ : zS) (Q : Option Value → zS → Prop) : Prop :=
  ∀ (D : va_G) (dt : Nat → ClassId) (b b0 : Nat), vx_Met l y.1 (zWh y) { frames := F, cells := mc, slots := ms, locals := Lc }
    (va_Pc (av.map (zv (zg b b0))) (fun U => zRep D dt b b0 σ U U.heap ∧ zKK D dt U ∧ b0 + 1 ≤ U.heap.size))
    (fun _ st o t => (∃ v σ', o = .returned (v.map (zv (zg b b0))) ∧ Q v σ' ∧ zRep D dt b b0 σ' t t.heap) ∧ va_F (fun q => b0 < q) st t)
    (fun _ _ _ => False) mc ms (fun q => b0 < q)
theorem zlen_map {g : Nat → Nat} (vs : List Value) : (lg_sl (vs.map (zv g))).length = (lg_sl vs).length := by
  induction vs with
  | nil => rfl
  | cons v r ih => cases v <;> simp_all [lg_sl, zv, Value.category]
theorem zHas_entry {g : Nat → Nat} {n : Nat} (av : List Value) (hsl : (lg_sl av).length ≤ n) : zHas (lg_sl (av.map (zv g)) ++ List.replicate (n - (lg_sl (av.map (zv g))).length) Slot.unset).toArray n g (lv_args 0 av) := by
  have hl := lv_entry (av.map (zv g)) (n := n) (by rw [zlen_map]; exact hsl)
  exact ⟨hl.1, hl.2.1, fun i v hv => by
    have h1 := zlk_mem hv
    refine hl.2.2 (i, zv g v) ?_
    rw [lv_args_map]
    exact List.mem_map_of_mem (f := fun q => (q.1, zv g q.2)) h1⟩
theorem zexn {v : Option Value} {w : Value} (h : v = some w) (hw : ∀ k, w ≠ .float k) : ∀ k, v ≠ some (.float k) := fun k e => hw k (Option.some.inj (h.symm.trans e))
section ZXM
variable {l : Launch} {y : zM}
theorem zAX.of {F Lc mc ms : Nat} {av : List Value} {σ : zS} {Q : Option Value → zS → Prop} (hpl : plainName y.1.cls = true) (hsl : (lg_sl av).length ≤ y.2.2.1) (hfl : l.stackTraces = false)
    (h : zAW l y { frames := F, cells := mc, slots := ms, locals := Lc } 0 (lv_args 0 av) [] σ 0 0 Q) (hh : zHH y.1 = [] := by decide +kernel) : zAX l y F Lc mc ms av σ Q := by
  intro D dt b b0
  refine vx_ofW (cc := y.2.1) (maxL := y.2.2.1) (ret := y.2.2.2.1) hpl rfl ?_
  intro p e s m args below meth c s₁ B hml hno hv
  obtain ⟨rfl, hR, hKK, hb0⟩ := hv
  have hts := atoms_spec (ws := zW y) B.pre
  have htab : c.exceptionTable.toList = [] := List.eq_nil_iff_forall_not_mem.mpr (fun x hx => hno x hx)
  have hC : zCtx y p s m (av.map (zv (zg b b0))).toArray meth c := ⟨B.exec, B.bytes, B.returns, hml, findClass_of_methodNamed B.named, fun w hw => hts w (List.mem_cons_of_mem _ hw), B.notSynchronized, fun hn => (name_of_methodNamed B.named B.method).1.trans hn, fun h => absurd hh h⟩
  have hH := zHas_entry (g := zg b b0) av hsl
  rw [lg_entry_eq]
  generalize (lg_sl (av.map (zv (zg b b0))) ++ List.replicate (y.2.2.1 - (lg_sl (av.map (zv (zg b b0)))).length) Slot.unset).toArray = ls at hH ⊢
  refine h p e s m _ below meth c D dt b b0 s.heap [] ls _ hC hKK hR hb0 va_S.rf hH ⟨Nat.zero_le _, Nat.zero_le _⟩ ?_
  intro v σ' pc' st' H' locs' uc' us' ls' hret hq hR' hS' hu'
  have hlocks := hC.2.2.2.2.2.2.1
  have hQ : ∀ (w : Option Value), w = v.map (zv (zg b b0)) → (∀ k, v ≠ some (.float k)) → ∀ t : State, t.heap = H' → s.WarmedH t.vm → ((∃ v σ', Outcome.returned w = .returned (v.map (zv (zg b b0))) ∧ Q v σ' ∧ (∀ k, v ≠ some (.float k)) ∧ zRep D dt b b0 σ' t t.heap) ∧ va_F (fun q => b0 < q) s t) := by
    intro w hw hnf t ht hW
    exact ⟨⟨v, σ', by rw [hw], hq, hnf, by rw [ht]; exact hR'.moved hW.alike⟩, hS'.F ht⟩
  rcases hret with hret | ⟨k, rfl, rfl, hsz, ⟨-, ik, is, ic, d0, d3, d4, d6, d9, ho, ⟨tx, htx⟩, w1, w2, w3, w4⟩, hr1, hr2, hr3⟩
  · refine W.widen (k := mc) (n := ms) hu'.1 hu'.2 (vx_ret ?_)
    rcases hret with ⟨rfl, rfl, hr, hd⟩ | ⟨x, ty, rfl, rfl, hr, hn, hd⟩ | ⟨w, ty, rfl, rfl, hw, hr, hty, hd⟩ | ⟨x, rfl, rfl, hr, hd⟩ | ⟨x, rfl, rfl, hr, hd⟩
    · exact W.vret hC.1 hC.2.1 (hC.2.2.1.trans hr) (hQ none rfl (fun _ h => by cases h)) hS'.2.2 hd
    · exact W.zret (v := x) hC.1 hC.2.1 (hC.2.2.1.trans hr) hn (hQ (some (.int x)) rfl (fun _ h => by cases h)) hS'.2.2 hd
    · exact W.aret (v := zv (zg b b0) w) hC.1 hC.2.1 (hC.2.2.1.trans hr) hty (by rcases hw with rfl | ⟨a, rfl⟩; exact Or.inl rfl; exact Or.inr ⟨_, rfl⟩) (hQ (some (zv (zg b b0) w)) rfl (by rcases hw with rfl | ⟨a, rfl⟩ <;> exact fun _ h => by cases h)) hS'.2.2 hd
    · exact W.lret (v := x) hC.1 hC.2.1 (hC.2.2.1.trans hr) (hQ (some (.long x)) rfl (fun _ h => by cases h)) hS'.2.2 hd
    · exact W.dret (v := x) hC.1 hC.2.1 (hC.2.2.1.trans hr) (hQ (some (.double x)) rfl (fun _ h => by cases h)) hS'.2.2 hd
  · obtain ⟨sa, hstr⟩ := hKK.2.2.2.2.1 (is, tx) htx
    have hg : ∀ w ∈ zT, vx_ot w = true := fun w hw => by
      have := (List.mem_filter.mp hw).2
      simp [vx_ot, this]
    have hts2 := hC.2.2.2.2.2.1
    refine vx_throwS (names := zExN) (A := fun q => b0 < q) hC.1 hC.2.1 hfl hC.2.2.2.2.1 w4 (by decide +kernel) (hts2 _ w1) (hts2 _ w2) (by rw [ho]; exact hstr) (fun w hw => (w3 w hw).elim (hts2 w) (zXS.word hKK.2.2.2.2 w)) (fun w hw => ?_) hR.2.2.2.2.2.1 hR.2.2.2.2.2.2 hS' (hsz.trans hml.symm) d0 d3 d4 d6 d9 (fun x hx => (hno x hx).elim) (by show 2 + 3 < F; have : 6 ≤ F := hr2; omega) (by show 0 + (13 * (2 + 1) + 43) ≤ Lc; have : 100 ≤ Lc := hr3; omega) hr1.1 hr1.2 hlocks (fun t ha hz hk => ?_) hS'.2.2 hr1.1 hr1.2
    · rcases List.mem_cons.mp hw with e | hw
      · rw [e]; exact hg _ w1
      · rcases List.mem_cons.mp hw with e | hw
        · rw [e]; exact hg _ w2
        · rcases w3 w hw with h | h
          · exact hg _ h
          · have h9 : ∀ w ∈ zXW, vx_ot w = true := by decide +kernel
            exact h9 w h
    · exact ⟨⟨k, σ', t.heap.size - H'.size, rfl, hq, (hR'.pad (by omega) hk).moved ha⟩, (zS.grow hS' hz hk).F rfl⟩
theorem zAH.of {F Lc mc ms : Nat} {av : List Value} {σ : zS} {Q : Option Value → zS → Prop} (hpl : plainName y.1.cls = true) (hsl : (lg_sl av).length ≤ y.2.2.1)
    (h : zAW l y { frames := F, cells := mc, slots := ms, locals := Lc } 0 (lv_args 0 av) [] σ 0 0 Q) (hn : y.1 ∉ zTHR := by decide +kernel) : zAH l y F Lc mc ms av σ Q := by
  intro D dt b b0
  refine vx_ofWH (cc := y.2.1) (maxL := y.2.2.1) (ret := y.2.2.2.1) (hh := zHH y.1) hpl rfl ?_
  intro p e s m args below meth c s₁ B hml hv
  obtain ⟨rfl, hR, hKK, hb0⟩ := hv
  have hts := atoms_spec (ws := zWh y) B.pre
  have htab : c.exceptionTable.toList = tableOf (zHH y.1) := vx_table (x := y.1) B (hts _ List.mem_cons_self)
  have hC : zCtx y p s m (av.map (zv (zg b b0))).toArray meth c := ⟨B.exec, B.bytes, B.returns, hml, findClass_of_methodNamed B.named, fun w hw => hts w (List.mem_cons_of_mem _ hw), B.notSynchronized, fun hn => (name_of_methodNamed B.named B.method).1.trans hn, fun _ => htab⟩
  have hH := zHas_entry (g := zg b b0) av hsl
  rw [lg_entry_eq]
  generalize (lg_sl (av.map (zv (zg b b0))) ++ List.replicate (y.2.2.1 - (lg_sl (av.map (zv (zg b b0)))).length) Slot.unset).toArray = ls at hH ⊢
  refine h p e s m _ below meth c D dt b b0 s.heap [] ls _ hC hKK hR hb0 va_S.rf hH ⟨Nat.zero_le _, Nat.zero_le _⟩ ?_
  intro v σ' pc' st' H' locs' uc' us' ls' hret hq hR' hS' hu'
  have hlocks := hC.2.2.2.2.2.2.1
  have hQ : ∀ (w : Option Value), w = v.map (zv (zg b b0)) → ∀ t : State, t.heap = H' → s.WarmedH t.vm → ((∃ v σ', Outcome.returned w = .returned (v.map (zv (zg b b0))) ∧ Q v σ' ∧ zRep D dt b b0 σ' t t.heap) ∧ va_F (fun q => b0 < q) s t) := by
    intro w hw t ht hW
    exact ⟨⟨v, σ', by rw [hw], hq, by rw [ht]; exact hR'.moved hW.alike⟩, hS'.F ht⟩
  refine W.widen (k := mc) (n := ms) hu'.1 hu'.2 (vx_ret ?_)
  rcases hret with (⟨rfl, rfl, hr, hd⟩ | ⟨x, ty, rfl, rfl, hr, hn, hd⟩ | ⟨w, ty, rfl, rfl, hw, hr, hty, hd⟩ | ⟨x, rfl, rfl, hr, hd⟩ | ⟨x, rfl, rfl, hr, hd⟩) | ⟨k, -, -, -, ht, -⟩
  · exact W.vret hC.1 hC.2.1 (hC.2.2.1.trans hr) (hQ none rfl) hS'.2.2 hd
  · exact W.zret (v := x) hC.1 hC.2.1 (hC.2.2.1.trans hr) hn (hQ (some (.int x)) rfl) hS'.2.2 hd
  · exact W.aret (v := zv (zg b b0) w) hC.1 hC.2.1 (hC.2.2.1.trans hr) hty (by rcases hw with rfl | ⟨a, rfl⟩; exact Or.inl rfl; exact Or.inr ⟨_, rfl⟩) (hQ (some (zv (zg b b0) w)) rfl) hS'.2.2 hd
  · exact W.lret (v := x) hC.1 hC.2.1 (hC.2.2.1.trans hr) (hQ (some (.long x)) rfl) hS'.2.2 hd
  · exact W.dret (v := x) hC.1 hC.2.1 (hC.2.2.1.trans hr) (hQ (some (.double x)) rfl) hS'.2.2 hd
  · exact absurd ht.1 hn
end ZXM
section ZX0
variable {p : Program} {l : Launch} {e : Env} {R : Room} {s : State} {m : MethodId} {args : Array Value} {below : List Frame} {meth : Method} {c : Code} {H : Heap} {locs : List Loc} {cells slots : Nat} {Q : State → Prop}
theorem zz_goX {pc mc ms : Nat} {ls : Array Slot} {rest st0 : List Value} {A0 free : Nat → Prop} {Qa : State → Outcome → State → Prop} {XC : String → State → State → Prop} (hr : vx_Run p l e R s m args below meth c H locs cells slots mc ms (F0 m pc ls st0) rest Qa XC free) (hS : va_S A0 s.heap H locs) (hf : ∀ q, free q → A0 q) (hF : ∀ st o t, Qa st o t → va_F A0 st t) (hFX : ∀ E st t, XC E st t → va_F A0 st t)
    (kk : ∀ (v : Option Value) (st₀ t : State) (H1 : Heap) (locs1 : List Loc), t.heap = H1 → t.vm.Alike s.vm → Qa st₀ (.returned v) t → va_S A0 s.heap H1 locs1 → W p l e R s m args below meth c H1 locs1 (cells + mc) (slots + ms) Q (F0 m (pc + 3) ls (v.toList ++ rest)))
    (kx : ∀ (E : String) (q : Nat) (ce : Cell) (st₀ t : State) (H1 : Heap) (locs1 : List Loc), t.heap = H1 → t.vm.Alike s.vm → XC E st₀ t → H1[q]? = some ce → ce.vm = .none → s.vm.findClass E = some ce.cls → va_S A0 s.heap H1 locs1 → vx_W p l e R s m args below meth c H1 locs1 (cells + mc) (slots + ms) Q (F0 m pc ls rest) q) : W p l e R s m args below meth c H locs cells slots Q (F0 m pc ls st0) := by
  intro T hT X
  rcases hr T hT X with ⟨v, st₀, t, T', L, h0, X', hL, e1, e2, hq, st⟩ | ⟨q, st₀, t, T', L, E, ce, h0, X', hL, e1, e2, hx, hce, hcv, hcl, st⟩
  · obtain ⟨hz, hk⟩ := hF _ _ _ hq
    rw [h0] at hz hk
    obtain ⟨t2, a1, b1⟩ := kk v st₀ t T'.heap (locs ++ L) e1.symm (by rw [← e2]; exact X'.warmed.alike.symm) hq
      ⟨Nat.le_trans hS.1 (by rw [e1]; exact hz), fun q h1 h2 => by rw [e1, hk q (Nat.lt_of_lt_of_le h1 hS.1) h2]; exact hS.2.1 q h1 h2, fun q hq => by
        rcases List.mem_append.mp hq with h | h
        · exact hS.2.2 q h
        · exact hf _ (hL q h)⟩ T' rfl X'
    exact ⟨t2, st t2 a1, b1⟩
  · obtain ⟨hz, hk⟩ := hFX _ _ _ hx
    rw [h0] at hz hk
    obtain ⟨t2, a1, b1⟩ := kx E q ce st₀ t T'.heap (locs ++ L) e1.symm (by rw [← e2]; exact X'.warmed.alike.symm) hx (by rw [e1]; exact hce) hcv hcl
      ⟨Nat.le_trans hS.1 (by rw [e1]; exact hz), fun q h1 h2 => by rw [e1, hk q (Nat.lt_of_lt_of_le h1 hS.1) h2]; exact hS.2.1 q h1 h2, fun q hq => by
        rcases List.mem_append.mp hq with h | h
        · exact hS.2.2 q h
        · exact hf _ (hL q h)⟩ T' rfl X'
    exact ⟨t2, st.trans a1, b1⟩
end ZX0
/-- the exception k, thrown at pc, is caught by the first row of the method's table, put away, and it goes on -/
def zCat (l : Launch) (y : zM) (R : Room) (pc : Nat) (k : UInt32) (σ : zS) (uc us : Nat) (Q : Option Value → zS → Prop) : Prop :=
  ∃ (x : Nat × Nat × Nat × Nat) (suf : List (Nat × Nat × Nat × Nat)) (i len : Nat), zHH y.1 = x :: suf ∧ covers ⟨x.1, x.2.1, x.2.2.1, x.2.2.2⟩ pc = true ∧ x.2.2.2 ≠ 0 ∧ Cond.classLink y.1.cls x.2.2.2 (zEx k) ∈ zT ∧ (zEx k, zEx k) ∈ zXC ∧
    ((len = 2 ∧ decode y.2.1 x.2.2.1 = .ok (.astore i, 2)) ∨ (len = 1 ∧ ∃ j : Fin 4, (j : Nat) = i ∧ decode y.2.1 x.2.2.1 = .ok (.astore_n j, 1))) ∧ i < y.2.2.1 ∧ zAW l y R (x.2.2.1 + len) [] [] σ uc us Q
section ZXCall
variable {l : Launch} {y : zM} {R : Room} {pc : Nat} {lc : List (Nat × Value)} {st st0 : List Value} {σ : zS} {uc us : Nat} {Q : Option Value → zS → Prop}
theorem zw_callVX {ix a ci F Lc mc ms : Nat} {y' : zM} {av : List Value} {Q' : Option Value → zS → Prop} (hd : decode y.2.1 pc = .ok (.invokevirtual ix, 3)) (hlk : zLK y.1.cls ix y'.1) (hnn : ∀ q ∈ zNM, q.1 ≠ y.1.cls) (hy : zVI y') (hk : zK σ a = ci) (hci : ci < 100) (hcl : (zcl ci).1 = y'.1.cls) (hM : zAX l y' F Lc mc ms (.ref a :: av) σ Q') (hn : av.length = y'.2.2.2.2) (hst : st0 = av.reverse ++ .ref a :: st) (hcat : (st.map fun v => v.category).sum ≤ 8) (hrm : F + 1 ≤ R.frames ∧ 8 + (y'.2.2.1 + 11) + Lc ≤ R.locals) (hc : uc + mc ≤ R.cells ∧ us + ms ≤ R.slots)
    (kk : ∀ v σ', Q' v σ' → (∀ k, v ≠ some (.float k)) → zAW l y R (pc + 3) lc (v.toList ++ st) σ' (uc + mc) (us + ms) Q)
    (kx : ∀ k σ' n, Q' (some (.float k)) σ' → zCat l y R pc k (zPad σ' n) (uc + mc) (us + ms) Q) : zAW l y R pc lc st0 σ uc us Q := by
  intro p e s m args below meth c D dt b b0 H locs ls Qs hC hKK hR hb hS hl hu hF
  obtain ⟨h0, h1, h2, h3, cellB, g1, g2, g3, -⟩ := hR.obj hk hci
  have hts := hC.2.2.2.2.2.1
  have hfc : s.vm.findClass y'.1.cls = some cellB.cls := by
    rw [g2, ← hcl]
    exact (hKK.1.1 ci _ (zCl_all ci h3).1).2.1
  have hpre : PreV s H y'.1.cls (zg b b0 a) (va_Pc ((Value.ref a :: av).map (zv (zg b b0))) (fun U => zRep D dt b b0 σ U U.heap ∧ zKK D dt U ∧ b0 + 1 ≤ U.heap.size)) (av.map (zv (zg b b0))) :=
    ⟨zPc_blind, ⟨cellB, g1, by rw [g3]; rfl, hfc⟩, fun U hU hW => ⟨rfl, by rw [hU]; exact hR.moved hW.alike, hKK.moved hW, by rw [hU]; exact Nat.le_trans hb hS.1⟩⟩
  have hstk : (F0 m pc ls (st0.map (zv (zg b b0)))).stack = (av.map (zv (zg b b0))).reverse ++ .ref (zg b b0 a) :: st.map (zv (zg b b0)) := by
    rw [hst]
    simp [List.map_append, List.map_reverse, zv]
  have hroom := lv_room (m := m) (pc := pc) (ls := ls) (rest := st0.map (zv (zg b b0))) (st := st.map (zv (zg b b0))) (by rw [zcat]; exact hcat)
  have hfix : CallFix p m c y.2.1 y.2.2.1 s args zT y.1.cls := ⟨hC.1, hC.2.1, hC.2.2.2.1, hC.2.2.2.2.1, hts⟩
  rcases hlk with hlk | ⟨host, hlk⟩
  · refine zz_goX (vx_runV (n := y'.2.2.2.2) (C := y'.1.cls) hfix (hM D dt b b0) ⟨callB_of (bytes := y'.2.1) (maxL := y'.2.2.1) (ret := y'.2.2.2.1) _ hts (zgood hy.1) rfl rfl rfl (hts _ hy.1.1.2) (hts _ hlk) hy.1.2 hrm, hts _ hy.2.1, hts _ hy.2.2⟩ hpre rfl (by rw [List.length_map]; exact hn) hl.1 hstk hroom hd hc) hS (fun q h => h) (fun _ _ _ h => h.2) (fun _ _ _ h => h.2) (fun v0 st₀ t H1 locs1 ht hvm hq hS1 => ?_) (fun E q ce st₀ t H1 locs1 ht hvm hx hce hcv hcl hS1 => ?_)
    · obtain ⟨⟨v, σ', e1, e2, e5, e3⟩, -⟩ := hq
      cases e1
      rw [zv_stack]
      rw [ht] at e3
      exact kk v σ' e2 e5 p e s m args below meth c D dt b b0 H1 locs1 ls Qs hC hKK (e3.moved hvm) hb hS1 hl hc hF
    · obtain ⟨⟨k, σ', n, rfl, e2, e3⟩, -⟩ := hx
      rw [ht] at e3
      obtain ⟨x, suf, i, len, c1, c2, c3, c4, c5, c6, c7, c8⟩ := kx k σ' n e2
      refine vx_catch hC.2.2.2.2.1 [] ⟨x.1, x.2.1, x.2.2.1, x.2.2.2⟩ (tableOf suf) (by rw [hC.2.2.2.2.2.2.2.2 (by rw [c1]; exact List.cons_ne_nil _ _), c1]; rfl) (fun z hz => by cases hz) c2 c3 (hts _ c4) (va_Nw.use rfl (hKK.2.2.2.2.2.2.1 _ c5)) hce hcv hcl ?_
      have hfin : ∀ ls' : Array Slot, lv_has ls' y.2.2.1 ((i, .ref q) :: (zLL y.2.2.1 (zg b b0) lc).filter (fun z => !(z.1 == i) && !(z.1 + 1 == i && z.2.category == 2))) → zHas ls' y.2.2.1 (zg b b0) [] := fun ls' hl' => ⟨hl'.1, hl'.2.1, fun _ _ h => by cases h⟩
      rcases c6 with ⟨rfl, c6⟩ | ⟨rfl, j, rfl, c6⟩
      · exact lv_astore hC.1 hC.2.1 c6 hl.toL c7 rfl (fun ls' hl' => c8 p e s m args below meth c D dt b b0 H1 locs1 ls' Qs hC hKK (e3.moved hvm) hb hS1 (hfin ls' hl') hc hF)
      · exact lv_astore_n hC.1 hC.2.1 c6 rfl hl.toL c7 rfl (fun ls' hl' => c8 p e s m args below meth c D dt b b0 H1 locs1 ls' Qs hC hKK (e3.moved hvm) hb hS1 (hfin ls' hl') hc hF)
  · exact absurd rfl (hnn _ hlk)
theorem zw_callSH {ix F Lc mc ms : Nat} {y' : zM} {av : List Value} {Q' : Option Value → zS → Prop} (hd : decode y.2.1 pc = .ok (.invokestatic ix, 3)) (hlk : zLK y.1.cls ix y'.1) (hnn : ∀ q ∈ zNM, q.1 ≠ y.1.cls) (hy : zVH y') (hM : zAH l y' F Lc mc ms av σ Q') (hn : av.length = y'.2.2.2.2) (hst : st0 = av.reverse ++ st) (hcat : (st.map fun v => v.category).sum ≤ 8) (hrm : F + 1 ≤ R.frames ∧ 8 + (y'.2.2.1 + 11) + Lc ≤ R.locals) (hc : uc + mc ≤ R.cells ∧ us + ms ≤ R.slots)
    (kk : ∀ v σ', Q' v σ' → zAW l y R (pc + 3) lc (v.toList ++ st) σ' (uc + mc) (us + ms) Q) : zAW l y R pc lc st0 σ uc us Q := by
  intro p e s m args below meth c D dt b b0 H locs ls Qs hC hKK hR hb hS hl hu hF
  have hts := hC.2.2.2.2.2.1
  have hpre : PreS s H (va_Pc (av.map (zv (zg b b0))) (fun U => zRep D dt b b0 σ U U.heap ∧ zKK D dt U ∧ b0 + 1 ≤ U.heap.size)) (av.map (zv (zg b b0))) :=
    ⟨zPc_blind, fun U hU hW => ⟨rfl, by rw [hU]; exact hR.moved hW.alike, hKK.moved hW, by rw [hU]; exact Nat.le_trans hb hS.1⟩⟩
  have hstk : (F0 m pc ls (st0.map (zv (zg b b0)))).stack = (av.map (zv (zg b b0))).reverse ++ st.map (zv (zg b b0)) := by
    rw [hst]
    simp [List.map_append, List.map_reverse]
  have hroom := lv_room (m := m) (pc := pc) (ls := ls) (rest := st0.map (zv (zg b b0))) (st := st.map (zv (zg b b0))) (by rw [zcat]; exact hcat)
  have hfix : CallFix p m c y.2.1 y.2.2.1 s args zT y.1.cls := ⟨hC.1, hC.2.1, hC.2.2.2.1, hC.2.2.2.2.1, hts⟩
  have hgw : GoodIn zT (zWh y') := fun w hw => by
    rcases List.mem_cons.mp hw with e | e
    · subst e
      exact zT_good _ hy.1.1
    · exact zT_good _ e
  rcases hlk with hlk | ⟨host, hlk⟩
  · have hcw : vx_CSW R s args y.1.cls ix y'.1 y'.2.1 y'.2.2.1 y'.2.2.2.1 (zHH y'.1) (zWh y') { frames := F, cells := mc, slots := ms, locals := Lc } mc ms y'.2.2.2.2 := by
      refine ⟨⟨rfl, rfl, hrm.1, hrm.2, pay_in hts hgw, List.mem_cons_self⟩, hts _ hy.1.1, hts _ hy.1.2.1, ⟨hy.2.1, hy.2.2.1⟩, fun sig h => ?_, hts _ hlk, hts _ hy.1.2.2⟩
      have h2 := hy.2.2.2
      rw [h] at h2
      exact (Option.some.inj h2).symm
    refine zz_goX (vx_runSX hfix (hM D dt b b0) hcw hpre rfl (by rw [List.length_map]; exact hn) hl.1 hstk hroom hd hc) hS (fun q h => h) (fun _ _ _ h => h.2) (fun _ _ _ h => h.elim) (fun v0 st₀ t H1 locs1 ht hvm hq hS1 => ?_) (fun E q ce st₀ t H1 locs1 ht hvm hx => hx.elim)
    obtain ⟨⟨v, σ', e1, e2, e3⟩, -⟩ := hq
    cases e1
    rw [zv_stack]
    rw [ht] at e3
    exact kk v σ' e2 p e s m args below meth c D dt b b0 H1 locs1 ls Qs hC hKK (e3.moved hvm) hb hS1 hl hc hF
  · exact absurd rfl (hnn _ hlk)
end ZXCall
