/-! Traps: a set closed -/
theorem zAW_hp {l : Launch} {y : zM} {R : Room} {pc : Nat} {lc : List (Nat × Value)} {st : List Value} {σ σ' : zS} {uc us : Nat} {Q : Option Value → zS → Prop} (e : σ = σ') (h : zAW l y R pc lc st σ' uc us Q) : zAW l y R pc lc st σ uc us Q := e ▸ h
theorem nI_dec (n : Nat) : nI (n + 1) + Int32.ofInt (-1) = nI n := by
  rw [← nI_pred n, Int32.sub_eq_add_neg]
  rfl
theorem i32_not_and {x e : Int32} (h : (0 ||| (x ^^^ -1)) &&& e = e) : x &&& e = 0 := by
  apply Int32.toBitVec_inj.mp
  have h2 := congrArg Int32.toBitVec h
  simp only [Int32.toBitVec_and, Int32.toBitVec_or, Int32.toBitVec_xor] at h2 ⊢
  refine BitVec.eq_of_getLsbD_eq (fun i hi => ?_)
  have h3 := congrArg (fun b : BitVec 32 => b.getLsbD i) h2
  simp only [BitVec.getLsbD_and, BitVec.getLsbD_or, BitVec.getLsbD_xor, show (-1 : Int32).toBitVec = BitVec.allOnes 32 from rfl, show (0 : Int32).toBitVec = 0#32 from rfl, BitVec.getLsbD_allOnes, BitVec.getLsbD_zero, hi, decide_true] at h3 ⊢
  revert h3
  cases x.toBitVec.getLsbD i <;> cases e.toBitVec.getLsbD i <;> decide
theorem i32_all_and (e : Int32) : (0 ||| ((0 : Int32) ^^^ -1)) &&& e = e := by
  rw [show (0 ||| ((0 : Int32) ^^^ -1)) = -1 from by decide]
  exact Int32.neg_one_and
/-- the graph of the states as the rows tell it: the steps of s begin at fs s -/
def xGr (σ : zS) (pk n T : Nat) (fs : Nat → Nat) (E : Nat → List Nat) : Prop :=
  xPk σ pk ∧ n ≤ 400 ∧ T ≤ zL σ pk ∧ zL σ pk < 2 ^ 31 ∧ (∀ s, s ≤ n → zI σ 14 s = nI (fs s)) ∧ (∀ s, s < n → fs (s + 1) = fs s + (E s).length) ∧ (∀ s, s ≤ n → fs s ≤ T) ∧
  (∀ s, s < n → ∀ j t, (E s)[j]? = some t → t < n ∧ xPart (zI σ pk (fs s + j)) 0 = nI t)
def xMrk (σ : zS) (g : Int32) : List Nat → zS
  | [] => σ
  | x :: r => zsI (zsI (xMrk σ g r) 23 x 0) 24 x g
theorem xMrk_I {σ : zS} {g : Int32} : ∀ (l : List Nat) {a : Nat}, a ≠ 23 → a ≠ 24 → zI (xMrk σ g l) a = zI σ a
  | [], _, _, _ => rfl
  | x :: r, a, h1, h2 => by
    funext j
    rw [xMrk, zI_zsI, if_neg (fun q => h2 q.1), zI_zsI, if_neg (fun q => h1 q.1), xMrk_I r h1 h2]
theorem xMrk_F {σ : zS} {g : Int32} : ∀ (l : List Nat), zF (xMrk σ g l) = zF σ
  | [] => rfl
  | x :: r => by rw [xMrk, zF_zsI, zF_zsI, xMrk_F r]
theorem xMrk_G {σ : zS} {g : Int32} : ∀ (l : List Nat), zG (xMrk σ g l) = zG σ
  | [] => rfl
  | x :: r => by rw [xMrk, zG_zsI, zG_zsI, xMrk_G r]
theorem xMrk_K {σ : zS} {g : Int32} : ∀ (l : List Nat), zK (xMrk σ g l) = zK σ
  | [] => rfl
  | x :: r => by rw [xMrk, zK_zsI, zK_zsI, xMrk_K r]
theorem xMrk_L {σ : zS} {g : Int32} : ∀ (l : List Nat), zL (xMrk σ g l) = zL σ
  | [] => rfl
  | x :: r => by rw [xMrk, zL_zsI, zL_zsI, xMrk_L r]
theorem xMrk_n {σ : zS} {g : Int32} : ∀ (l : List Nat), zn (xMrk σ g l) = zn σ
  | [] => rfl
  | x :: r => by rw [xMrk, zn_zsI, zn_zsI, xMrk_n r]
theorem xMrk_23 {σ : zS} {g : Int32} : ∀ (l : List Nat) (j : Nat), zI (xMrk σ g l) 23 j = if j ∈ l then 0 else zI σ 23 j
  | [], j => by rw [if_neg List.not_mem_nil]; rfl
  | x :: r, j => by
    rw [xMrk, zI_zsI, if_neg (fun q => absurd q.1 (by decide)), zI_zsI]
    by_cases q : j = x
    · rw [if_pos ⟨rfl, q⟩, if_pos (by rw [q]; exact List.mem_cons_self)]
    · rw [if_neg (fun z => q z.2), xMrk_23 r j]
      by_cases q2 : j ∈ r
      · rw [if_pos q2, if_pos (List.mem_cons_of_mem _ q2)]
      · rw [if_neg q2, if_neg (fun z => (List.mem_cons.mp z).elim q q2)]
theorem xMrk_24 {σ : zS} {g : Int32} : ∀ (l : List Nat) (j : Nat), zI (xMrk σ g l) 24 j = if j ∈ l then g else zI σ 24 j
  | [], j => by rw [if_neg List.not_mem_nil]; rfl
  | x :: r, j => by
    rw [xMrk, zI_zsI]
    by_cases q : j = x
    · rw [if_pos ⟨rfl, q⟩, if_pos (by rw [q]; exact List.mem_cons_self)]
    · rw [if_neg (fun z => q z.2), zI_zsI, if_neg (fun q => absurd q.1 (by decide)), xMrk_24 r j]
      by_cases q2 : j ∈ r
      · rw [if_pos q2, if_pos (List.mem_cons_of_mem _ q2)]
      · rw [if_neg q2, if_neg (fun z => (List.mem_cons.mp z).elim q q2)]
theorem xMrk_sh {σ : zS} {g : Int32} (l : List Nat) (h : xSh σ) : xSh (xMrk σ g l) :=
  xSh.mono h (fun _ _ => by rw [xMrk_K]) (fun _ _ => by rw [xMrk_L]) (fun _ _ _ _ _ => by rw [xMrk_G])
set_option maxHeartbeats 4000000 in
set_option maxRecDepth 100000 in
theorem lp_down_end {l : Launch} {σ : zS} {v b : Nat} {ev : Int32} {Q : Option Value → zS → Prop} (hQ : zAW l zmX4_close { frames := 3, cells := 0, slots := 0, locals := 68 } 65 [(0, .ref 21), (1, .int (nI v)), (2, .ref 8), (3, .int ev), (4, .int (nI b))] [] σ 0 0 Q) : zAW l zmX4_close { frames := 3, cells := 0, slots := 0, locals := 68 } 19 [(0, .ref 21), (1, .int (nI v)), (2, .ref 8), (3, .int ev), (4, .int (nI b)), (5, .int 1)] [] σ 0 0 Q := by
  refine zw_iload dX4_close_19 rfl ?_
  refine zw_ifle (tgt := 65) dX4_close_21 (by decide) (fun c21 => ?_) (fun c21 => ?_)
  · exact zw_loc (zsub_cons rfl (zsub_cons rfl (zsub_cons rfl (zsub_cons rfl (zsub_cons rfl zsub_nil))))) hQ
  · refine zw_iload dX4_close_24 rfl ?_
    refine zw_ifne (tgt := 65) dX4_close_26 (by decide) (fun c26 => ?_) (fun c26 => ?_)
    · exact zw_loc (zsub_cons rfl (zsub_cons rfl (zsub_cons rfl (zsub_cons rfl (zsub_cons rfl zsub_nil))))) hQ
    · exact absurd c26 (by decide)
set_option maxHeartbeats 4000000 in
set_option maxRecDepth 100000 in
theorem lp_down {l : Launch} {σ : zS} (h : xSh σ) {pk n T v : Nat} {fs : Nat → Nat} {E : Nat → List Nat} {w wa bad : Nat → Bool} {A B : List Nat} {ev : Int32} (hgr : xGr σ pk n T fs E) (hw : ∀ t, t < n → zI σ 22 t = zb (w t) ∧ zI σ 23 t = zb (wa t) ∧ zI σ 24 t = zb (bad t)) (hst : ∀ R x, (x :: R) <:+ A ++ v :: B → zI σ 29 R.length = nI x) (hlt : ∀ x, x ∈ A ++ v :: B → x < n) (hlen : (A ++ v :: B).length ≤ n) (hv : v ∉ A) {Q : Option Value → zS → Prop} (hQ : ∀ f' g', (A = [] → lkI w wa (E v) = false → f' = 0 ||| (zI σ 13 v ^^^ -1)) → (g' = true ↔ ∃ x, (x ∈ A ∨ x = v) ∧ ∃ t, t ∈ E x ∧ w t = true ∧ wa t = false ∧ bad t = true) → zAW l zmX4_close { frames := 3, cells := 0, slots := 0, locals := 68 } 65 [(0, .ref 21), (1, .int (nI v)), (2, .ref 8), (3, .int ev), (4, .int (nI B.length))] [] (xLk σ f' (zb g')) 0 0 Q) : ∀ (A' D : List Nat) (f : Int32) (g : Bool), A = D ++ A' → (A = [] → f = 0) → (g = true ↔ ∃ x, x ∈ D ∧ ∃ t, t ∈ E x ∧ w t = true ∧ wa t = false ∧ bad t = true) → zAW l zmX4_close { frames := 3, cells := 0, slots := 0, locals := 68 } 19 [(0, .ref 21), (1, .int (nI v)), (2, .ref 8), (3, .int ev), (4, .int (nI (A' ++ v :: B).length)), (5, .int 0)] [] (xLk σ f (zb g)) 0 0 Q := by
  obtain ⟨g1, g2, g3, g4, g5, g6, g7, g8⟩ := id hgr
  have lk : ∀ {x : Nat} {f : Int32} {g : Bool}, x < n → zAM l zmX4_lookAt 2 42 0 0 [.ref 21, .int (nI x), .ref 8] (xLk σ f (zb g)) (fun v σ' => v = none ∧ ∃ f', (lkI w wa (E x) = false → f' = f ||| (zI σ 13 x ^^^ -1)) ∧ σ' = xLk σ f' (zb (lkG w wa bad g (E x)))) := by
    intro x f g hx
    have e6 := g6 x hx
    have e7 := g7 (x + 1) hx
    have := c_X4_lookAt (l := l) (σ := xLk σ f (zb g)) (s := x) (f := f) (g := g) (w := w) (wa := wa) (bad := bad) (E := E x) h g1 g2 (by omega) (g5 x (by omega)) (show fs x + (E x).length ≤ zL σ pk by omega) g4 hw rfl rfl rfl ((g5 (x + 1) hx).trans (congrArg nI e6)) (g8 x hx)
    simp only [xLk_xLk] at this
    exact this
  intro A'
  induction A' with
  | nil =>
    intro D f g hD hf hg
    rw [List.append_nil] at hD
    have hx : v < n := hlt v (List.mem_append_right _ List.mem_cons_self)
    have hsx : zI σ 29 B.length = nI v := hst B v ⟨A, rfl⟩
    have hle : B.length < n := by
      have := hlen
      rw [List.length_append, List.length_cons] at this
      omega
    rw [List.nil_append, List.length_cons]
    refine zw_iload dX4_close_19 rfl ?_
    refine zw_ifle (tgt := 65) dX4_close_21 (by decide) (fun c21 => ?_) (fun c21 => ?_)
    · exact absurd c21 (nI_nle (by omega) (by omega))
    · refine zw_iload dX4_close_24 rfl ?_
      refine zw_ifne (tgt := 65) dX4_close_26 (by decide) (fun c26 => ?_) (fun c26 => ?_)
      · exact absurd rfl c26
      · refine zw_iinc dX4_close_29 rfl (by decide) rfl ?_
        rw [nI_dec]
        refine zw_aload_n dX4_close_32 rfl ?_
        refine zw_aload_n dX4_close_33 rfl ?_
        refine zw_getR dX4_close_34 zfX4_34 rfl (xk_21 h) (by decide) (xg_4_7 h) ?_
        refine zw_iload dX4_close_37 rfl ?_
        refine zw_iaload dX4_close_39 (xk_29 h) (zin_of (xl_29 h) (vp_in_nI (by omega) (by omega))) ?_
        rw [show zI (xLk σ f (zb g)) 29 = zI σ 29 from rfl, nI_clamp (show B.length < 2 ^ 31 by omega), hsx]
        refine zw_aload_n dX4_close_40 rfl ?_
        refine zw_callV (y' := zmX4_lookAt) dX4_close_41 zlX4_115 zmX4_lookAt_ok (xk_21 h) (by decide) rfl (lk hx) rfl rfl (Nat.le_of_ble_eq_true rfl) ⟨Nat.le_of_ble_eq_true rfl, Nat.le_of_ble_eq_true rfl⟩ ⟨Nat.le_of_ble_eq_true rfl, Nat.le_of_ble_eq_true rfl⟩ ?_
        intro v41 s41 q41
        obtain ⟨rfl, f1, hf1, z41⟩ := q41
        rw [z41]
        clear z41
        refine zw_aload_n dX4_close_44 rfl ?_
        refine zw_getR dX4_close_45 zfX4_34 rfl (xk_21 h) (by decide) (xg_4_7 h) ?_
        refine zw_iload dX4_close_48 rfl ?_
        refine zw_iaload dX4_close_50 (xk_29 h) (zin_of (xl_29 h) (vp_in_nI (by omega) (by omega))) ?_
        rw [show zI (xLk σ f1 (zb (lkG w wa bad g (E v)))) 29 = zI σ 29 from rfl, nI_clamp (show B.length < 2 ^ 31 by omega), hsx]
        refine zw_iload_n dX4_close_51 rfl ?_
        refine zw_icmpne (tgt := 59) dX4_close_52 (by decide) (fun c52 => ?_) (fun c52 => ?_)
        · refine zw_iconst (x := 0) dX4_close_59 rfl ?_
          refine zw_istore dX4_close_60 (by decide) rfl ?_
          refine zw_goto (tgt := 19) dX4_close_62 (by decide) ?_
          exact absurd rfl c52
        · refine zw_iconst (x := 1) dX4_close_55 rfl ?_
          refine zw_goto (tgt := 60) dX4_close_56 (by decide) ?_
          refine zw_istore dX4_close_60 (by decide) rfl ?_
          refine zw_goto (tgt := 19) dX4_close_62 (by decide) ?_
          refine zw_loc (lc' := [(0, .ref 21), (1, .int (nI v)), (2, .ref 8), (3, .int ev), (4, .int (nI B.length)), (5, .int 1)]) (zsub_cons rfl (zsub_cons rfl (zsub_cons rfl (zsub_cons rfl (zsub_cons rfl (zsub_cons rfl zsub_nil)))))) (lp_down_end (hQ f1 (lkG w wa bad g (E v)) (fun q1 q2 => by rw [← hf q1]; exact hf1 q2) ?_))
          rw [lkG_iff, hg, ← hD]
          constructor
          · rintro (⟨y, y1, y2⟩ | y)
            · exact ⟨y, .inl y1, y2⟩
            · exact ⟨v, .inr rfl, y⟩
          · rintro ⟨y, y1 | rfl, y2⟩
            · exact .inl ⟨y, y1, y2⟩
            · exact .inr y2
  | cons x A' ih =>
    intro D f g hD hf hg
    have hxA : x ∈ A := by rw [hD]; exact List.mem_append_right _ List.mem_cons_self
    have hxv : ¬ x = v := fun e => hv (e ▸ hxA)
    have hne : A ≠ [] := fun e => by rw [e] at hxA; exact List.not_mem_nil hxA
    have hx : x < n := hlt x (List.mem_append_left _ hxA)
    have hvn : v < n := hlt v (List.mem_append_right _ List.mem_cons_self)
    have hsx : zI σ 29 (A' ++ v :: B).length = nI x := hst (A' ++ v :: B) x ⟨D, by rw [hD, List.append_assoc]; rfl⟩
    have hle : (A' ++ v :: B).length < n := by
      have := hlen
      rw [hD, List.append_assoc, List.length_append, List.cons_append, List.length_cons] at this
      omega
    rw [List.cons_append, List.length_cons]
    refine zw_iload dX4_close_19 rfl ?_
    refine zw_ifle (tgt := 65) dX4_close_21 (by decide) (fun c21 => ?_) (fun c21 => ?_)
    · exact absurd c21 (nI_nle (by omega) (by omega))
    · refine zw_iload dX4_close_24 rfl ?_
      refine zw_ifne (tgt := 65) dX4_close_26 (by decide) (fun c26 => ?_) (fun c26 => ?_)
      · exact absurd rfl c26
      · refine zw_iinc dX4_close_29 rfl (by decide) rfl ?_
        rw [nI_dec]
        refine zw_aload_n dX4_close_32 rfl ?_
        refine zw_aload_n dX4_close_33 rfl ?_
        refine zw_getR dX4_close_34 zfX4_34 rfl (xk_21 h) (by decide) (xg_4_7 h) ?_
        refine zw_iload dX4_close_37 rfl ?_
        refine zw_iaload dX4_close_39 (xk_29 h) (zin_of (xl_29 h) (vp_in_nI (by omega) (by omega))) ?_
        rw [show zI (xLk σ f (zb g)) 29 = zI σ 29 from rfl, nI_clamp (show (A' ++ v :: B).length < 2 ^ 31 by omega), hsx]
        refine zw_aload_n dX4_close_40 rfl ?_
        refine zw_callV (y' := zmX4_lookAt) dX4_close_41 zlX4_115 zmX4_lookAt_ok (xk_21 h) (by decide) rfl (lk hx) rfl rfl (Nat.le_of_ble_eq_true rfl) ⟨Nat.le_of_ble_eq_true rfl, Nat.le_of_ble_eq_true rfl⟩ ⟨Nat.le_of_ble_eq_true rfl, Nat.le_of_ble_eq_true rfl⟩ ?_
        intro v41 s41 q41
        obtain ⟨rfl, f1, hf1, z41⟩ := q41
        rw [z41]
        clear z41
        refine zw_aload_n dX4_close_44 rfl ?_
        refine zw_getR dX4_close_45 zfX4_34 rfl (xk_21 h) (by decide) (xg_4_7 h) ?_
        refine zw_iload dX4_close_48 rfl ?_
        refine zw_iaload dX4_close_50 (xk_29 h) (zin_of (xl_29 h) (vp_in_nI (by omega) (by omega))) ?_
        rw [show zI (xLk σ f1 (zb (lkG w wa bad g (E x)))) 29 = zI σ 29 from rfl, nI_clamp (show (A' ++ v :: B).length < 2 ^ 31 by omega), hsx]
        refine zw_iload_n dX4_close_51 rfl ?_
        refine zw_icmpne (tgt := 59) dX4_close_52 (by decide) (fun c52 => ?_) (fun c52 => ?_)
        · refine zw_iconst (x := 0) dX4_close_59 rfl ?_
          refine zw_istore dX4_close_60 (by decide) rfl ?_
          refine zw_goto (tgt := 19) dX4_close_62 (by decide) ?_
          refine zw_loc (lc' := [(0, .ref 21), (1, .int (nI v)), (2, .ref 8), (3, .int ev), (4, .int (nI (A' ++ v :: B).length)), (5, .int 0)]) (zsub_cons rfl (zsub_cons rfl (zsub_cons rfl (zsub_cons rfl (zsub_cons rfl (zsub_cons rfl zsub_nil)))))) (ih (D ++ [x]) f1 (lkG w wa bad g (E x)) (by rw [hD, List.append_assoc]; rfl) (fun q => absurd q hne) ?_)
          rw [lkG_iff, hg]
          constructor
          · rintro (⟨y, y1, y2⟩ | y)
            · exact ⟨y, List.mem_append_left _ y1, y2⟩
            · exact ⟨x, List.mem_append_right _ List.mem_cons_self, y⟩
          · rintro ⟨y, y1, y2⟩
            rcases List.mem_append.mp y1 with y1 | y1
            · exact .inl ⟨y, y1, y2⟩
            · rw [List.mem_singleton.mp y1] at y2
              exact .inr y2
        · refine zw_iconst (x := 1) dX4_close_55 rfl ?_
          refine zw_goto (tgt := 60) dX4_close_56 (by decide) ?_
          refine zw_istore dX4_close_60 (by decide) rfl ?_
          refine zw_goto (tgt := 19) dX4_close_62 (by decide) ?_
          exact absurd ((nI_eq (by omega) (by omega)).mp c52) hxv
set_option maxHeartbeats 4000000 in
set_option maxRecDepth 100000 in
theorem lp_mark {l : Launch} {σ : zS} {n b : Nat} {tp g : Bool} {wait B : List Nat} (h : xSh σ) (hwl : zF σ 4 9 21 = nI wait.length) (hg : zF σ 4 14 21 = zb g) (hlen : wait.length ≤ n) (hn : n ≤ 400) (hst : ∀ R x, (x :: R) <:+ wait → zI σ 29 R.length = nI x) (hlt : ∀ x, x ∈ wait → x < n) {Q : Option Value → zS → Prop} : ∀ (P R : List Nat), wait = P.reverse ++ (R ++ B) → Q none (zsF (xMrk σ (zb (tp || g)) (P.reverse ++ R)) 4 9 21 (nI b)) → zAW l zmX4_close { frames := 3, cells := 0, slots := 0, locals := 68 } 107 [(0, .ref 21), (4, .int (nI b)), (6, .int (zb tp)), (7, .int (nI (R ++ B).length))] [] (xMrk σ (zb (tp || g)) R) 0 0 Q := by
  intro P
  induction P with
  | nil =>
    intro R hP hQ
    have e : (R ++ B).length = wait.length := by rw [hP]; rfl
    have hs := xMrk_sh (g := zb (tp || g)) R h
    refine zw_iload dX4_close_107 rfl ?_
    refine zw_aload_n dX4_close_109 rfl ?_
    refine zw_getI dX4_close_110 zfX4_67 rfl (xk_21 hs) (by decide) ?_
    refine zw_icmpge (tgt := 164) dX4_close_113 (by decide) (fun c113 => ?_) (fun c113 => ?_)
    · refine zw_aload_n dX4_close_164 rfl ?_
      refine zw_iload dX4_close_165 rfl ?_
      refine zw_putI dX4_close_167 zfX4_67 rfl rfl ⟨rfl, rfl⟩ (xk_21 hs) (by decide) ?_
      refine zw_vret dX4_close_170 rfl ?_
      exact hQ
    · rw [xMrk_F, hwl, e] at c113
      exact absurd c113 (fun q => q (Int32.le_refl _))
  | cons x P ih =>
    intro R hP hQ
    have hs := xMrk_sh (g := zb (tp || g)) R h
    rw [List.reverse_cons, List.append_assoc] at hP
    have hx := hlt x (by rw [hP]; exact List.mem_append_right _ (List.mem_append_left _ List.mem_cons_self))
    have hsx : zI σ 29 (R ++ B).length = nI x := hst (R ++ B) x ⟨P.reverse, by rw [hP]; rfl⟩
    have hle : (R ++ B).length < wait.length := by
      simp only [hP, List.length_append, List.length_singleton]
      omega
    rw [List.reverse_cons, List.append_assoc] at hQ
    refine zw_iload dX4_close_107 rfl ?_
    refine zw_aload_n dX4_close_109 rfl ?_
    refine zw_getI dX4_close_110 zfX4_67 rfl (xk_21 hs) (by decide) ?_
    refine zw_icmpge (tgt := 164) dX4_close_113 (by decide) (fun c113 => ?_) (fun c113 => ?_)
    · rw [xMrk_F, hwl] at c113
      exact absurd c113 (nI_ge hle (by omega))
    · refine zw_aload_n dX4_close_116 rfl ?_
      refine zw_getR dX4_close_117 zfX4_15 rfl (xk_21 hs) (by decide) (xg_4_1 hs) ?_
      refine zw_aload_n dX4_close_120 rfl ?_
      refine zw_getR dX4_close_121 zfX4_34 rfl (xk_21 hs) (by decide) (xg_4_7 hs) ?_
      refine zw_iload dX4_close_124 rfl ?_
      refine zw_iaload dX4_close_126 (xk_29 hs) (zin_of (xl_29 hs) (vp_in_nI (by omega) (by omega))) ?_
      rw [xMrk_I R (by decide) (by decide), nI_clamp (show (R ++ B).length < 2 ^ 31 by omega), hsx]
      refine zw_iconst (x := 0) dX4_close_127 rfl ?_
      refine zw_bastore dX4_close_128 (xk_23 hs) rfl (zin_of (xl_23 hs) (vp_in_nI (by omega) (by omega))) ?_
      refine zw_aload_n dX4_close_129 rfl ?_
      refine zw_getR dX4_close_130 zfX4_18 rfl (xk_21 hs) (by decide) (xg_4_2 hs) ?_
      refine zw_aload_n dX4_close_133 rfl ?_
      refine zw_getR dX4_close_134 zfX4_34 rfl (xk_21 hs) (by decide) (xg_4_7 hs) ?_
      refine zw_iload dX4_close_137 rfl ?_
      refine zw_iaload dX4_close_139 (xk_29 hs) (zin_of (xl_29 hs) (vp_in_nI (by omega) (by omega))) ?_
      rw [zI_zsI, if_neg (fun q => absurd q.1 (by decide)), xMrk_I R (by decide) (by decide), nI_clamp (show (R ++ B).length < 2 ^ 31 by omega), hsx]
      refine zw_iload dX4_close_140 rfl ?_
      refine zw_ifne (tgt := 152) dX4_close_142 (by decide) (fun c142 => ?_) (fun c142 => ?_)
      · refine zw_iconst (x := 1) dX4_close_152 rfl ?_
        refine zw_goto (tgt := 157) dX4_close_153 (by decide) ?_
        refine zw_bastore dX4_close_157 (xk_24 hs) rfl (zin_of (xl_24 hs) (vp_in_nI (by omega) (by omega))) ?_
        refine zw_iinc dX4_close_158 rfl (by decide) rfl ?_
        refine zw_goto (tgt := 107) dX4_close_161 (by decide) ?_
        replace c142 := zb_1.mp c142
        have e : (1 : Int32) = zb (tp || g) := by rw [c142]; rfl
        refine zw_loc (lc' := [(0, .ref 21), (4, .int (nI b)), (6, .int (zb tp)), (7, .int (nI (R ++ B).length + 1))]) (zsub_cons rfl (zsub_cons rfl (zsub_cons rfl (zsub_cons rfl zsub_nil)))) ?_
        rw [nI_1, nI_clamp (show x < 2 ^ 31 by omega)]
        exact zAW_hp (congrArg (zsI (zsI (xMrk σ (zb (tp || g)) R) 23 x 0) 24 x) e) (ih (x :: R) hP hQ)
      · refine zw_aload_n dX4_close_145 rfl ?_
        refine zw_getI dX4_close_146 zfX4_111 rfl (xk_21 hs) (by decide) ?_
        refine zw_ifeq (tgt := 156) dX4_close_149 (by decide) (fun c149 => ?_) (fun c149 => ?_)
        · refine zw_iconst (x := 0) dX4_close_156 rfl ?_
          refine zw_bastore dX4_close_157 (xk_24 hs) rfl (zin_of (xl_24 hs) (vp_in_nI (by omega) (by omega))) ?_
          refine zw_iinc dX4_close_158 rfl (by decide) rfl ?_
          refine zw_goto (tgt := 107) dX4_close_161 (by decide) ?_
          replace c142 := zb_0.mp c142
          replace c149 := zb_0.mp (show zb g = 0 by rw [← hg]; rw [zF_zsI, xMrk_F] at c149; exact c149)
          have e : (0 : Int32) = zb (tp || g) := by rw [c142, c149]; rfl
          refine zw_loc (lc' := [(0, .ref 21), (4, .int (nI b)), (6, .int (zb tp)), (7, .int (nI (R ++ B).length + 1))]) (zsub_cons rfl (zsub_cons rfl (zsub_cons rfl (zsub_cons rfl zsub_nil)))) ?_
          rw [nI_1, nI_clamp (show x < 2 ^ 31 by omega)]
          exact zAW_hp (congrArg (zsI (zsI (xMrk σ (zb (tp || g)) R) 23 x 0) 24 x) e) (ih (x :: R) hP hQ)
        · refine zw_iconst (x := 1) dX4_close_152 rfl ?_
          refine zw_goto (tgt := 157) dX4_close_153 (by decide) ?_
          refine zw_bastore dX4_close_157 (xk_24 hs) rfl (zin_of (xl_24 hs) (vp_in_nI (by omega) (by omega))) ?_
          refine zw_iinc dX4_close_158 rfl (by decide) rfl ?_
          refine zw_goto (tgt := 107) dX4_close_161 (by decide) ?_
          replace c142 := zb_0.mp c142
          replace c149 := zb_1.mp (show ¬ zb g = 0 by rw [← hg]; rw [zF_zsI, xMrk_F] at c149; exact c149)
          have e : (1 : Int32) = zb (tp || g) := by rw [c142, c149]; rfl
          refine zw_loc (lc' := [(0, .ref 21), (4, .int (nI b)), (6, .int (zb tp)), (7, .int (nI (R ++ B).length + 1))]) (zsub_cons rfl (zsub_cons rfl (zsub_cons rfl (zsub_cons rfl zsub_nil)))) ?_
          rw [nI_1, nI_clamp (show x < 2 ^ 31 by omega)]
          exact zAW_hp (congrArg (zsI (zsI (xMrk σ (zb (tp || g)) R) 23 x 0) 24 x) e) (ih (x :: R) hP hQ)
set_option maxHeartbeats 4000000 in
set_option maxRecDepth 100000 in
theorem lp_close_end {l : Launch} {σ : zS} (h : xSh σ) {pk n T v : Nat} {fs : Nat → Nat} {E : Nat → List Nat} {w wa bad : Nat → Bool} {A B : List Nat} {ev : Int32} (hgr : xGr σ pk n T fs E) (hw : ∀ t, t < n → zI σ 22 t = zb (w t) ∧ zI σ 23 t = zb (wa t) ∧ zI σ 24 t = zb (bad t)) (hst : ∀ R x, (x :: R) <:+ A ++ v :: B → zI σ 29 R.length = nI x) (hlt : ∀ x, x ∈ A ++ v :: B → x < n) (hlen : (A ++ v :: B).length ≤ n) (hwl : zF σ 4 9 21 = nI (A ++ v :: B).length) {f : Int32} {g : Bool} (q1 : A = [] → lkI w wa (E v) = false → f = 0 ||| (zI σ 13 v ^^^ -1)) (q2 : g = true ↔ ∃ x, (x ∈ A ∨ x = v) ∧ ∃ t, t ∈ E x ∧ w t = true ∧ wa t = false ∧ bad t = true) : zAW l zmX4_close { frames := 3, cells := 0, slots := 0, locals := 68 } 65 [(0, .ref 21), (1, .int (nI v)), (2, .ref 8), (3, .int ev), (4, .int (nI B.length))] [] (xLk σ f (zb g)) 0 0 (fun r σ' => r = none ∧ ∃ f g tp y, (g = true ↔ ∃ x, (x ∈ A ∨ x = v) ∧ ∃ t, t ∈ E x ∧ w t = true ∧ wa t = false ∧ bad t = true) ∧ (tp = true → A = [] → lkI w wa (E v) = true ∨ zI σ 13 v &&& ev = 0) ∧ (A = [] → lkI w wa (E v) = false → zI σ 13 v = 0 → tp = true) ∧ σ' = zsF (xMrk (zsF (xLk σ f (zb g)) 4 12 21 y) (zb (tp || g)) (A ++ [v])) 4 9 21 (nI B.length)) := by
  have g2 : n ≤ 400 := hgr.2.1
  have hP : A ++ v :: B = ((A ++ [v]).reverse).reverse ++ ([] ++ B) := by rw [List.reverse_reverse, List.append_assoc]; rfl
  refine zw_aload_n dX4_close_65 rfl ?_
  refine zw_getI dX4_close_66 zfX4_108 rfl (xk_21 h) (by decide) ?_
  refine zw_iload_n dX4_close_69 rfl ?_
  refine zw_iand dX4_close_70 ?_
  refine zw_iload_n dX4_close_71 rfl ?_
  refine zw_icmpne (tgt := 79) dX4_close_72 (by decide) (fun c72 => ?_) (fun c72 => ?_)
  · refine zw_iconst (x := 0) dX4_close_79 rfl ?_
    refine zw_istore dX4_close_80 (by decide) rfl ?_
    refine zw_iload dX4_close_82 rfl ?_
    refine zw_ifeq (tgt := 103) dX4_close_84 (by decide) (fun c84 => ?_) (fun c84 => ?_)
    · refine zw_iload dX4_close_103 rfl ?_
      refine zw_istore dX4_close_105 (by decide) rfl ?_
      refine zAW_hp (zsF_self (xLk σ f (zb g)) 4 12 21 _ rfl).symm ?_
      refine zw_loc (lc' := [(0, .ref 21), (4, .int (nI B.length)), (6, .int (zb false)), (7, .int (nI ([] ++ B).length))]) (zsub_cons rfl (zsub_cons rfl (zsub_cons rfl (zsub_cons rfl zsub_nil)))) (lp_mark (σ := zsF (xLk σ f (zb g)) 4 12 21 (zF (xLk σ f (zb g)) 4 12 21)) (n := n) (tp := false) (g := g) (wait := A ++ v :: B) h hwl rfl hlen g2 hst hlt ((A ++ [v]).reverse) [] hP ?_)
      rw [List.reverse_reverse, List.append_nil]
      exact ⟨rfl, f, g, false, _, q2, fun q => absurd q (by decide), fun hA hl htk => absurd (show f &&& ev = ev by rw [q1 hA hl, htk]; exact i32_all_and ev) c72, rfl⟩
    · refine zw_aload_n dX4_close_87 rfl ?_
      refine zw_dup dX4_close_88 rfl ?_
      refine zw_getI dX4_close_89 zfX4_73 rfl (xk_21 h) (by decide) ?_
      refine zw_aload_n dX4_close_92 rfl ?_
      refine zw_getI dX4_close_93 zfX4_67 rfl (xk_21 h) (by decide) ?_
      refine zw_iload dX4_close_96 rfl ?_
      refine zw_isub dX4_close_98 ?_
      refine zw_iadd dX4_close_99 ?_
      refine zw_putI dX4_close_100 zfX4_73 rfl rfl ⟨rfl, rfl⟩ (xk_21 h) (by decide) ?_
      refine zw_iload dX4_close_103 rfl ?_
      refine zw_istore dX4_close_105 (by decide) rfl ?_
      exact absurd rfl c84
  · refine zw_iconst (x := 1) dX4_close_75 rfl ?_
    refine zw_goto (tgt := 80) dX4_close_76 (by decide) ?_
    refine zw_istore dX4_close_80 (by decide) rfl ?_
    refine zw_iload dX4_close_82 rfl ?_
    refine zw_ifeq (tgt := 103) dX4_close_84 (by decide) (fun c84 => ?_) (fun c84 => ?_)
    · refine zw_iload dX4_close_103 rfl ?_
      refine zw_istore dX4_close_105 (by decide) rfl ?_
      exact absurd c84 (by decide)
    · refine zw_aload_n dX4_close_87 rfl ?_
      refine zw_dup dX4_close_88 rfl ?_
      refine zw_getI dX4_close_89 zfX4_73 rfl (xk_21 h) (by decide) ?_
      refine zw_aload_n dX4_close_92 rfl ?_
      refine zw_getI dX4_close_93 zfX4_67 rfl (xk_21 h) (by decide) ?_
      refine zw_iload dX4_close_96 rfl ?_
      refine zw_isub dX4_close_98 ?_
      refine zw_iadd dX4_close_99 ?_
      refine zw_putI dX4_close_100 zfX4_73 rfl rfl ⟨rfl, rfl⟩ (xk_21 h) (by decide) ?_
      refine zw_iload dX4_close_103 rfl ?_
      refine zw_istore dX4_close_105 (by decide) rfl ?_
      refine zw_loc (lc' := [(0, .ref 21), (4, .int (nI B.length)), (6, .int (zb true)), (7, .int (nI ([] ++ B).length))]) (zsub_cons rfl (zsub_cons rfl (zsub_cons rfl (zsub_cons rfl zsub_nil)))) (lp_mark (σ := zsF (xLk σ f (zb g)) 4 12 21 (zF (xLk σ f (zb g)) 4 12 21 + (zF (xLk σ f (zb g)) 4 9 21 - nI B.length))) (n := n) (tp := true) (g := g) (wait := A ++ v :: B) h hwl rfl hlen g2 hst hlt ((A ++ [v]).reverse) [] hP ?_)
      rw [List.reverse_reverse, List.append_nil]
      exact ⟨rfl, f, g, true, _, q2, fun _ hA => by
          cases hl : lkI w wa (E v) with
          | true => exact Or.inl rfl
          | false =>
            refine Or.inr (i32_not_and ?_)
            rw [← q1 hA hl]
            exact c72, fun _ _ _ => rfl, rfl⟩
set_option maxHeartbeats 4000000 in
set_option maxRecDepth 100000 in
theorem c_X4_close {l : Launch} {σ : zS} (h : xSh σ) {pk n T v : Nat} {fs : Nat → Nat} {E : Nat → List Nat} {w wa bad : Nat → Bool} {A B : List Nat} {ev : Int32} (hgr : xGr σ pk n T fs E) (hw : ∀ t, t < n → zI σ 22 t = zb (w t) ∧ zI σ 23 t = zb (wa t) ∧ zI σ 24 t = zb (bad t)) (hst : ∀ R x, (x :: R) <:+ A ++ v :: B → zI σ 29 R.length = nI x) (hlt : ∀ x, x ∈ A ++ v :: B → x < n) (hlen : (A ++ v :: B).length ≤ n) (hv : v ∉ A) (hwl : zF σ 4 9 21 = nI (A ++ v :: B).length) : zAM l zmX4_close 3 68 0 0 [.ref 21, .int (nI v), .ref 8, .int ev] σ (fun r σ' => r = none ∧ ∃ f g tp y, (g = true ↔ ∃ x, (x ∈ A ∨ x = v) ∧ ∃ t, t ∈ E x ∧ w t = true ∧ wa t = false ∧ bad t = true) ∧ (tp = true → A = [] → lkI w wa (E v) = true ∨ zI σ 13 v &&& ev = 0) ∧ (A = [] → lkI w wa (E v) = false → zI σ 13 v = 0 → tp = true) ∧ σ' = zsF (xMrk (zsF (xLk σ f (zb g)) 4 12 21 y) (zb (tp || g)) (A ++ [v])) 4 9 21 (nI B.length)) := by
  refine zAM.of (by decide +kernel) (Nat.le_of_ble_eq_true rfl) ?_
  obtain ⟨g1, g2, g3, g4, g5, g6, g7, g8⟩ := id hgr
  refine zw_aload_n dX4_close_0 rfl ?_
  refine zw_iconst (x := 0) dX4_close_1 rfl ?_
  refine zw_putI dX4_close_2 zfX4_108 rfl rfl ⟨rfl, rfl⟩ (xk_21 h) (by decide) ?_
  refine zw_aload_n dX4_close_5 rfl ?_
  refine zw_iconst (x := 0) dX4_close_6 rfl ?_
  refine zw_putI dX4_close_7 zfX4_111 rfl rfl ⟨rfl, rfl⟩ (xk_21 h) (by decide) ?_
  rw [show zsF (zsF σ 4 13 21 0) 4 14 21 0 = xLk σ 0 (zb false) from rfl]
  refine zw_aload_n dX4_close_10 rfl ?_
  refine zw_getI dX4_close_11 zfX4_67 rfl (xk_21 h) (by decide) ?_
  rw [show zF (xLk σ 0 (zb false)) 4 9 21 = zF σ 4 9 21 from rfl, hwl]
  refine zw_istore dX4_close_14 (by decide) rfl ?_
  refine zw_iconst (x := 0) dX4_close_16 rfl ?_
  refine zw_istore dX4_close_17 (by decide) rfl ?_
  refine zw_loc (lc' := [(0, .ref 21), (1, .int (nI v)), (2, .ref 8), (3, .int ev), (4, .int (nI (A ++ v :: B).length)), (5, .int 0)]) (zsub_cons rfl (zsub_cons rfl (zsub_cons rfl (zsub_cons rfl (zsub_cons rfl (zsub_cons rfl zsub_nil)))))) (lp_down h hgr hw hst hlt hlen hv ?_ A [] 0 false rfl (fun _ => rfl) ⟨fun q => absurd q (by decide), fun ⟨_, q, _⟩ => absurd q List.not_mem_nil⟩)
  intro f g q1 q2
  exact lp_close_end h hgr hw hst hlt hlen hwl q1 q2
