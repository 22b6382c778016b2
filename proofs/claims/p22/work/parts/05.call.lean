/-! calls -/
/-- a method's contract: from the heap σ, with these arguments, it answers as Q says; at most mc cells of ms parts are new -/
def zAM (l : Launch) (y : zM) (F Lc mc ms : Nat) (av : List Value) (σ : zS) (Q : Option Value → zS → Prop) : Prop :=
  ∀ (D : va_G) (dt : Nat → ClassId) (b b0 : Nat), Met l y.1 (zW y) { frames := F, cells := mc, slots := ms, locals := Lc }
    (va_Pc (av.map (zv (zg b b0))) (fun U => zRep D dt b b0 σ U U.heap ∧ zKK D dt U ∧ b0 + 1 ≤ U.heap.size))
    (fun _ st o t => (∃ v σ', o = .returned (v.map (zv (zg b b0))) ∧ Q v σ' ∧ zRep D dt b b0 σ' t t.heap ∧ zKK D dt t) ∧ va_F (fun q => b0 < q) st t)
    mc ms (fun q => b0 < q)
theorem lv_args_map (g : Nat → Nat) : ∀ (vs : List Value) (i : Nat), lv_args i (vs.map (zv g)) = (lv_args i vs).map (fun q => (q.1, zv g q.2))
  | [], i => rfl
  | v :: r, i => by
    show lv_args i (zv g v :: r.map (zv g)) = _
    simp only [lv_args, List.map_cons, zv_cat, lv_args_map g r]
theorem zlk_mem : ∀ {lc : List (Nat × Value)} {i : Nat} {v : Value}, zlk lc i = some v → (i, v) ∈ lc
  | [], i, v, h => by cases h
  | q :: r, i, v, h => by
    unfold zlk at h
    split at h
    · rename_i e
      cases h
      subst e
      exact List.mem_cons_self
    · exact List.mem_cons_of_mem _ (zlk_mem h)
section ZMet
variable {l : Launch} {y : zM}
theorem zAM.of {F Lc mc ms : Nat} {av : List Value} {σ : zS} {Q : Option Value → zS → Prop} (hpl : plainName y.1.cls = true) (hsl : (lg_sl av).length ≤ y.2.2.1)
    (h : zAW l y { frames := F, cells := mc, slots := ms, locals := Lc } 0 (lv_args 0 av) [] σ 0 0 Q) (hn : y.1 ∉ zTHR := by decide +kernel) (hh : zHH y.1 = [] := by decide +kernel) : zAM l y F Lc mc ms av σ Q := by
  intro D dt b b0
  refine Met.ofW (cc := y.2.1) (maxL := y.2.2.1) (ret := y.2.2.2.1) hpl rfl ?_
  intro p e s m args below meth c s₁ B hml hv
  obtain ⟨rfl, hR, hKK, hb0⟩ := hv
  have hts := atoms_spec (ws := zW y) B.pre
  have htab : c.exceptionTable.toList = [] := by
    obtain ⟨meth9, c9, h1, h2, -, -, -, -, h7, -⟩ := Cond.code_spec B.named (hts _ List.mem_cons_self)
    cases Option.some.inj (h1.symm.trans B.method)
    cases Option.some.inj (h2.symm.trans (Stand.of_body B).code)
    rw [Array.isEmpty_iff.mp h7]
  have hC : zCtx y p s m (av.map (zv (zg b b0))).toArray meth c := ⟨B.exec, B.bytes, B.returns, hml, findClass_of_methodNamed B.named, fun w hw => hts w (List.mem_cons_of_mem _ hw), B.notSynchronized, fun hn => (name_of_methodNamed B.named B.method).1.trans hn, fun h => absurd hh h⟩
  have hlen : ∀ vs : List Value, (lg_sl (vs.map (zv (zg b b0)))).length = (lg_sl vs).length := by
    intro vs
    induction vs with
    | nil => rfl
    | cons v r ih => cases v <;> simp_all [lg_sl, zv, Value.category]
  have hl := lv_entry (av.map (zv (zg b b0))) (n := y.2.2.1) (by rw [hlen]; exact hsl)
  rw [lg_entry_eq]
  generalize (lg_sl (av.map (zv (zg b b0))) ++ List.replicate (y.2.2.1 - (lg_sl (av.map (zv (zg b b0)))).length) Slot.unset).toArray = ls at hl ⊢
  have hH : zHas ls y.2.2.1 (zg b b0) (lv_args 0 av) := ⟨hl.1, hl.2.1, fun i v hv => by
    have h1 := zlk_mem hv
    refine hl.2.2 (i, zv (zg b b0) v) ?_
    rw [lv_args_map]
    exact List.mem_map_of_mem (f := fun q => (q.1, zv (zg b b0) q.2)) h1⟩
  refine h p e s m _ below meth c D dt b b0 s.heap [] ls _ hC hKK hR hb0 va_S.rf hH ⟨Nat.zero_le _, Nat.zero_le _⟩ ?_
  intro v σ' pc' st' H' locs' uc' us' ls' hret hq hR' hS' hu'
  refine W.widen (k := mc) (n := ms) hu'.1 hu'.2 ?_
  have hlocks := hC.2.2.2.2.2.2.1
  have hQ : ∀ (w : Option Value), w = v.map (zv (zg b b0)) → ∀ t : State, t.heap = H' → s.WarmedH t.vm → ((∃ v σ', Outcome.returned w = .returned (v.map (zv (zg b b0))) ∧ Q v σ' ∧ zRep D dt b b0 σ' t t.heap ∧ zKK D dt t) ∧ va_F (fun q => b0 < q) s t) := by
    intro w hw t ht hW
    exact ⟨⟨v, σ', by rw [hw], hq, by rw [ht]; exact hR'.moved hW.alike, hKK.moved hW⟩, hS'.F ht⟩
  rcases hret with (⟨rfl, rfl, hr, hd⟩ | ⟨x, ty, rfl, rfl, hr, hn, hd⟩ | ⟨w, ty, rfl, rfl, hw, hr, hty, hd⟩ | ⟨x, rfl, rfl, hr, hd⟩ | ⟨x, rfl, rfl, hr, hd⟩) | ⟨k, -, -, -, ht, -⟩
  · exact W.vret hC.1 hC.2.1 (hC.2.2.1.trans hr) (hQ none rfl) hS'.2.2 hd
  · exact W.zret (v := x) hC.1 hC.2.1 (hC.2.2.1.trans hr) hn (hQ (some (.int x)) rfl) hS'.2.2 hd
  · exact W.aret (v := zv (zg b b0) w) hC.1 hC.2.1 (hC.2.2.1.trans hr) hty (by rcases hw with rfl | ⟨a, rfl⟩; exact Or.inl rfl; exact Or.inr ⟨_, rfl⟩) (hQ (some (zv (zg b b0) w)) rfl) hS'.2.2 hd
  · exact W.lret (v := x) hC.1 hC.2.1 (hC.2.2.1.trans hr) (hQ (some (.long x)) rfl) hS'.2.2 hd
  · exact W.dret (v := x) hC.1 hC.2.1 (hC.2.2.1.trans hr) (hQ (some (.double x)) rfl) hS'.2.2 hd
  · exact absurd ht.1 hn
end ZMet
theorem zgood {y : zM} (h : zOK y) : GoodIn zT (zW y) := fun w hw => by
  rcases List.mem_cons.mp hw with e | e
  · subst e
    exact zT_good _ h.1.1
  · exact zT_good _ e
section ZC0
variable {p : Program} {l : Launch} {e : Env} {R : Room} {s : State} {m : MethodId} {args : Array Value} {below : List Frame} {meth : Method} {c : Code} {H : Heap} {locs : List Loc} {cells slots : Nat} {Q : State → Prop}
theorem zz_go {pc mc ms : Nat} {ls : Array Slot} {rest st0 : List Value} {A0 free : Nat → Prop} {Qa : State → Outcome → State → Prop} (hr : va_Run p l e R s m args below meth c H locs cells slots mc ms (F0 m pc ls st0) rest Qa free) (hS : va_S A0 s.heap H locs) (hf : ∀ q, free q → A0 q) (hF : ∀ st o t, Qa st o t → va_F A0 st t)
    (kk : ∀ (v : Option Value) (st₀ t : State) (H1 : Heap) (locs1 : List Loc), t.heap = H1 → t.vm.Alike s.vm → Qa st₀ (.returned v) t → va_S A0 s.heap H1 locs1 → W p l e R s m args below meth c H1 locs1 (cells + mc) (slots + ms) Q (F0 m (pc + 3) ls (v.toList ++ rest))) : W p l e R s m args below meth c H locs cells slots Q (F0 m pc ls st0) := by
  intro T hT X
  obtain ⟨v, st₀, t, T', L, h0, X', hL, e1, e2, hq, st⟩ := hr T hT X
  obtain ⟨hz, hk⟩ := hF _ _ _ hq
  rw [h0] at hz hk
  obtain ⟨t2, a1, b1⟩ := kk v st₀ t T'.heap (locs ++ L) e1.symm (by rw [← e2]; exact X'.warmed.alike.symm) hq
    ⟨Nat.le_trans hS.1 (by rw [e1]; exact hz), fun q h1 h2 => by rw [e1, hk q (Nat.lt_of_lt_of_le h1 hS.1) h2]; exact hS.2.1 q h1 h2, fun q hq => by
      rcases List.mem_append.mp hq with h | h
      · exact hS.2.2 q h
      · exact hf _ (hL q h)⟩ T' rfl X'
  exact ⟨t2, st t2 a1, b1⟩
end ZC0
theorem zPc_blind {D : va_G} {dt : Nat → ClassId} {b b0 : Nat} {σ : zS} {vs : List Value} : FrameBlind (va_Pc vs (fun U => zRep D dt b b0 σ U U.heap ∧ zKK D dt U ∧ b0 + 1 ≤ U.heap.size)) := by
  intro a U g mk ⟨h1, h2, h3, h4⟩
  exact ⟨h1, zRep.moved (u := U) (U := U.calling g mk a) (Vm.Alike.refl U.vm) h2, h3.calling, h4⟩
section ZCall
variable {l : Launch} {y : zM} {R : Room} {pc : Nat} {lc : List (Nat × Value)} {st st0 : List Value} {σ : zS} {uc us : Nat} {Q : Option Value → zS → Prop}
theorem zv_stack {g : Nat → Nat} {v : Option Value} {st : List Value} : (v.map (zv g)).toList ++ st.map (zv g) = (v.toList ++ st).map (zv g) := by
  cases v <;> simp
theorem zcat {g : Nat → Nat} {st : List Value} : ((st.map (zv g)).map fun v => v.category) = st.map fun v => v.category := by
  simp [Function.comp_def, zv_cat]
theorem zw_callV {ix a ci F Lc mc ms : Nat} {y' : zM} {av : List Value} {Q' : Option Value → zS → Prop} (hd : decode y.2.1 pc = .ok (.invokevirtual ix, 3)) (hlk : zLK y.1.cls ix y'.1) (hy : zVI y') (hk : zK σ a = ci) (hci : ci < 100) (hcl : (zcl ci).1 = y'.1.cls) (hM : zAM l y' F Lc mc ms (.ref a :: av) σ Q') (hn : av.length = y'.2.2.2.2) (hst : st0 = av.reverse ++ .ref a :: st) (hcat : (st.map fun v => v.category).sum ≤ 8) (hrm : F + 1 ≤ R.frames ∧ 8 + (y'.2.2.1 + 11) + Lc ≤ R.locals) (hc : uc + mc ≤ R.cells ∧ us + ms ≤ R.slots)
    (kk : ∀ v σ', Q' v σ' → zAW l y R (pc + 3) lc (v.toList ++ st) σ' (uc + mc) (us + ms) Q) : zAW l y R pc lc st0 σ uc us Q := by
  intro p e s m args below meth c D dt b b0 H locs ls Qs hC hKK hR hb hS hl hu hF
  obtain ⟨h0, h1, h2, h3, cellB, g1, g2, g3, -⟩ := hR.obj hk hci
  have hts := hC.2.2.2.2.2.1
  have hfc : s.vm.findClass y'.1.cls = some cellB.cls := by
    rw [g2, ← hcl]
    exact (hKK.1.1 ci _ (zCl_all ci h3).1).2.1
  have hpre : PreV s H y'.1.cls (zg b b0 a) (va_Pc ((Value.ref a :: av).map (zv (zg b b0))) (fun U => zRep D dt b b0 σ U U.heap ∧ zKK D dt U ∧ b0 + 1 ≤ U.heap.size)) (av.map (zv (zg b b0))) :=
    ⟨zPc_blind, ⟨cellB, g1, by rw [g3]; rfl, hfc⟩, fun U hU hW => ⟨rfl, by rw [hU]; exact hR.moved hW.alike, hKK.moved hW, by rw [hU]; exact Nat.le_trans hb hS.1⟩⟩
  have hstk : (F0 m pc ls (st0.map (zv (zg b b0)))).stack = (av.map (zv (zg b b0))).reverse ++ .ref (zg b b0 a) :: st.map (zv (zg b b0)) := by
    rw [hst]
    simp [List.map_append, List.map_reverse, zv]
  have hroom := lv_room (m := m) (pc := pc) (ls := ls) (rest := st0.map (zv (zg b b0))) (st := st.map (zv (zg b b0))) (by rw [zcat]; exact hcat)
  have hfix : CallFix p m c y.2.1 y.2.2.1 s args zT y.1.cls := ⟨hC.1, hC.2.1, hC.2.2.2.1, hC.2.2.2.2.1, hts⟩
  have hgo : ∀ (hr : va_Run p l e R s m args below meth c H locs uc us mc ms (F0 m pc ls (st0.map (zv (zg b b0)))) (st.map (zv (zg b b0))) (fun st o t => (∃ v σ', o = .returned (v.map (zv (zg b b0))) ∧ Q' v σ' ∧ zRep D dt b b0 σ' t t.heap ∧ zKK D dt t) ∧ va_F (fun q => b0 < q) st t) (fun q => b0 < q)), W p l e R s m args below meth c H locs uc us Qs (F0 m pc ls (st0.map (zv (zg b b0)))) := by
    intro hr
    refine zz_go hr hS (fun q h => h) (fun _ _ _ h => h.2) (fun v0 st₀ t H1 locs1 ht hvm hq hS1 => ?_)
    obtain ⟨⟨v, σ', e1, e2, e3, e4⟩, -⟩ := hq
    cases e1
    rw [zv_stack]
    rw [ht] at e3
    exact kk v σ' e2 p e s m args below meth c D dt b b0 H1 locs1 ls Qs hC hKK (e3.moved hvm) hb hS1 hl hc hF
  rcases hlk with hlk | ⟨host, hlk⟩
  · exact hgo (va_runV (n := y'.2.2.2.2) (C := y'.1.cls) hfix (hM D dt b b0) ⟨callB_of (bytes := y'.2.1) (maxL := y'.2.2.1) (ret := y'.2.2.2.1) _ hts (zgood hy.1) rfl rfl rfl (hts _ hy.1.1.2) (hts _ hlk) hy.1.2 hrm, hts _ hy.2.1, hts _ hy.2.2⟩ hpre rfl (by rw [List.length_map]; exact hn) hl.1 hstk hroom hd hc)
  · exact hgo (va_runVN (n := y'.2.2.2.2) (C := y'.1.cls) hfix (hM D dt b b0) ⟨va_cnB (bytes := y'.2.1) (maxL := y'.2.2.1) (ret := y'.2.2.2.1) _ hts (zgood hy.1) rfl rfl rfl (hKK.2.2.1 _ hlk) (hts _ hy.1.1.2) hy.1.2 hrm, hts _ hy.2.1, hts _ hy.2.2⟩ hpre rfl (by rw [List.length_map]; exact hn) hl.1 hstk hroom hd hc)
theorem zw_callS {ix F Lc mc ms : Nat} {y' : zM} {av : List Value} {Q' : Option Value → zS → Prop} (hd : decode y.2.1 pc = .ok (.invokestatic ix, 3)) (hlk : zLK y.1.cls ix y'.1) (hy : zVS y') (hM : zAM l y' F Lc mc ms av σ Q') (hn : av.length = y'.2.2.2.2) (hst : st0 = av.reverse ++ st) (hcat : (st.map fun v => v.category).sum ≤ 8) (hrm : F + 1 ≤ R.frames ∧ 8 + (y'.2.2.1 + 11) + Lc ≤ R.locals) (hc : uc + mc ≤ R.cells ∧ us + ms ≤ R.slots)
    (kk : ∀ v σ', Q' v σ' → zAW l y R (pc + 3) lc (v.toList ++ st) σ' (uc + mc) (us + ms) Q) : zAW l y R pc lc st0 σ uc us Q := by
  intro p e s m args below meth c D dt b b0 H locs ls Qs hC hKK hR hb hS hl hu hF
  have hts := hC.2.2.2.2.2.1
  have hpre : PreS s H (va_Pc (av.map (zv (zg b b0))) (fun U => zRep D dt b b0 σ U U.heap ∧ zKK D dt U ∧ b0 + 1 ≤ U.heap.size)) (av.map (zv (zg b b0))) :=
    ⟨zPc_blind, fun U hU hW => ⟨rfl, by rw [hU]; exact hR.moved hW.alike, hKK.moved hW, by rw [hU]; exact Nat.le_trans hb hS.1⟩⟩
  have hstk : (F0 m pc ls (st0.map (zv (zg b b0)))).stack = (av.map (zv (zg b b0))).reverse ++ st.map (zv (zg b b0)) := by
    rw [hst]
    simp [List.map_append, List.map_reverse]
  have hroom := lv_room (m := m) (pc := pc) (ls := ls) (rest := st0.map (zv (zg b b0))) (st := st.map (zv (zg b b0))) (by rw [zcat]; exact hcat)
  have hfix : CallFix p m c y.2.1 y.2.2.1 s args zT y.1.cls := ⟨hC.1, hC.2.1, hC.2.2.2.1, hC.2.2.2.2.1, hts⟩
  have hgo : ∀ (hr : va_Run p l e R s m args below meth c H locs uc us mc ms (F0 m pc ls (st0.map (zv (zg b b0)))) (st.map (zv (zg b b0))) (fun st o t => (∃ v σ', o = .returned (v.map (zv (zg b b0))) ∧ Q' v σ' ∧ zRep D dt b b0 σ' t t.heap ∧ zKK D dt t) ∧ va_F (fun q => b0 < q) st t) (fun q => b0 < q)), W p l e R s m args below meth c H locs uc us Qs (F0 m pc ls (st0.map (zv (zg b b0)))) := by
    intro hr
    refine zz_go hr hS (fun q h => h) (fun _ _ _ h => h.2) (fun v0 st₀ t H1 locs1 ht hvm hq hS1 => ?_)
    obtain ⟨⟨v, σ', e1, e2, e3, e4⟩, -⟩ := hq
    cases e1
    rw [zv_stack]
    rw [ht] at e3
    exact kk v σ' e2 p e s m args below meth c D dt b b0 H1 locs1 ls Qs hC hKK (e3.moved hvm) hb hS1 hl hc hF
  rcases hlk with hlk | ⟨host, hlk⟩
  · exact hgo (va_runS (n := y'.2.2.2.2) hfix (hM D dt b b0) ⟨callB_of (bytes := y'.2.1) (maxL := y'.2.2.1) (ret := y'.2.2.2.1) _ hts (zgood hy.1) rfl rfl rfl (hts _ hy.1.1.2) (hts _ hlk) hy.1.2 hrm, hts _ hy.2⟩ hpre rfl (by rw [List.length_map]; exact hn) hl.1 hstk hroom hd hc)
  · exact hgo (va_runSN (n := y'.2.2.2.2) hfix (hM D dt b b0) ⟨va_cnB (bytes := y'.2.1) (maxL := y'.2.2.1) (ret := y'.2.2.2.1) _ hts (zgood hy.1) rfl rfl rfl (hKK.2.2.1 _ hlk) (hts _ hy.1.1.2) hy.1.2 hrm, hts _ hy.2, trivial⟩ hpre rfl (by rw [List.length_map]; exact hn) hl.1 hstk hroom hd hc)
theorem zw_callI {ix a F Lc mc ms : Nat} {y' : zM} {av : List Value} {Q' : Option Value → zS → Prop} (hd : decode y.2.1 pc = .ok (.invokespecial ix, 3)) (hlk : zLK y.1.cls ix y'.1) (hy : zVC y') (hM : zAM l y' F Lc mc ms (.ref a :: av) σ Q') (hn : av.length = y'.2.2.2.2) (hst : st0 = av.reverse ++ .ref a :: st) (hcat : (st.map fun v => v.category).sum ≤ 8) (hrm : F + 1 ≤ R.frames ∧ 8 + (y'.2.2.1 + 11) + Lc ≤ R.locals) (hc : uc + mc ≤ R.cells ∧ us + ms ≤ R.slots)
    (kk : ∀ v σ', Q' v σ' → zAW l y R (pc + 3) lc (v.toList ++ st) σ' (uc + mc) (us + ms) Q) : zAW l y R pc lc st0 σ uc us Q := by
  intro p e s m args below meth c D dt b b0 H locs ls Qs hC hKK hR hb hS hl hu hF
  have hts := hC.2.2.2.2.2.1
  have hpre : PreS s H (va_Pc ((Value.ref a :: av).map (zv (zg b b0))) (fun U => zRep D dt b b0 σ U U.heap ∧ zKK D dt U ∧ b0 + 1 ≤ U.heap.size)) (.ref (zg b b0 a) :: av.map (zv (zg b b0))) :=
    ⟨zPc_blind, fun U hU hW => ⟨rfl, by rw [hU]; exact hR.moved hW.alike, hKK.moved hW, by rw [hU]; exact Nat.le_trans hb hS.1⟩⟩
  have hstk : (F0 m pc ls (st0.map (zv (zg b b0)))).stack = (av.map (zv (zg b b0))).reverse ++ .ref (zg b b0 a) :: st.map (zv (zg b b0)) := by
    rw [hst]
    simp [List.map_append, List.map_reverse, zv]
  have hroom := lv_room (m := m) (pc := pc) (ls := ls) (rest := st0.map (zv (zg b b0))) (st := st.map (zv (zg b b0))) (by rw [zcat]; exact hcat)
  have hfix : CallFix p m c y.2.1 y.2.2.1 s args zT y.1.cls := ⟨hC.1, hC.2.1, hC.2.2.2.1, hC.2.2.2.2.1, hts⟩
  have hgo : ∀ (hr : va_Run p l e R s m args below meth c H locs uc us mc ms (F0 m pc ls (st0.map (zv (zg b b0)))) (st.map (zv (zg b b0))) (fun st o t => (∃ v σ', o = .returned (v.map (zv (zg b b0))) ∧ Q' v σ' ∧ zRep D dt b b0 σ' t t.heap ∧ zKK D dt t) ∧ va_F (fun q => b0 < q) st t) (fun q => b0 < q)), W p l e R s m args below meth c H locs uc us Qs (F0 m pc ls (st0.map (zv (zg b b0)))) := by
    intro hr
    refine zz_go hr hS (fun q h => h) (fun _ _ _ h => h.2) (fun v0 st₀ t H1 locs1 ht hvm hq hS1 => ?_)
    obtain ⟨⟨v, σ', e1, e2, e3, e4⟩, -⟩ := hq
    cases e1
    rw [zv_stack]
    rw [ht] at e3
    exact kk v σ' e2 p e s m args below meth c D dt b b0 H1 locs1 ls Qs hC hKK (e3.moved hvm) hb hS1 hl hc hF
  have hw : zW y' = Cond.code y'.1 y'.2.1 y'.2.2.1 none :: zT := by unfold zW; rw [hy.2.2.2]
  rcases hlk with hlk | ⟨host, hlk⟩
  · exact hgo (va_runI (n := y'.2.2.2.2) hfix (hM D dt b b0) ⟨callB_of (bytes := y'.2.1) (maxL := y'.2.2.1) (ret := none) _ hts (zgood hy.1) hw rfl rfl (hts _ hy.1.1.2) (hts _ hlk) hy.1.2 hrm, hy.2.2.1, hts _ hy.2.1⟩ hpre rfl (by rw [List.length_map]; exact hn) hl.1 hstk hroom hd hc)
  · exact hgo (va_runIN (n := y'.2.2.2.2) hfix (hM D dt b b0) ⟨va_cnB (bytes := y'.2.1) (maxL := y'.2.2.1) (ret := none) _ hts (zgood hy.1) hw rfl rfl (hKK.2.2.1 _ hlk) (hts _ hy.1.1.2) hy.1.2 hrm, hy.2.2.1, hts _ hy.2.1⟩ hpre rfl (by rw [List.length_map]; exact hn) hl.1 hstk hroom hd hc)
theorem zw_objInit {ix a : Nat} (hd : decode y.2.1 pc = .ok (.invokespecial ix, 3)) (hlk : Cond.methodLink y.1.cls ix objectInit ∈ zT) (hrm : 1 ≤ R.frames ∧ (st.map fun v => v.category).sum + 12 ≤ R.locals) (kk : zAW l y R (pc + 3) lc st σ uc us Q) : zAW l y R pc lc (.ref a :: st) σ uc us Q := by
  intro p e s m args below meth c D dt b b0 H locs ls Qs hC hKK hR hb hS hl hu hF
  have hts := hC.2.2.2.2.2.1
  refine W.objInit hC.1 hC.2.1 hC.2.2.2.2.1 (hts _ hlk) (hts _ zo_inst) (hts _ zo_code) rfl (by rw [hC.2.2.2.1]; exact hl.1) rfl hd hrm.1 ?_ (kk p e s m args below meth c D dt b b0 H locs ls Qs hC hKK hR hb hS hl hu hF)
  show 2 * 0 + (((st.map (zv (zg b b0))).map fun v => v.category).sum) + 12 ≤ R.locals
  rw [zcat]
  omega
end ZCall
