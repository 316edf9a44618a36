/-! RETURNS, CONTRACTS, CALLS, THROWS -/
section XXF
variable {G : xx_G} {l : Launch} {M : xx_M} {fr lo mc ms : Nat} {Post : xx_Q} {pc : Nat} {L : List (Nat × Value)} {S : List Value} {A : xx_H} {n k j : Nat}
theorem J_ireturn {x : Int32} {ty : FieldType} (hd : decode M.2.2.1 pc = .ok (.ireturn, 1)) (hr : M.2.2.2.2.1 = some ty) (hn : narrow ty (.int x) = .int x) (hk : k ≤ mc) (hj : j ≤ ms) (hP : Post (.inl (some (.int x))) A n) : xx_J G l M fr lo mc ms Post pc L [.int x] A n k j := by
  intro p e s m args below meth c ad0 n0 F ad H locs ls ⟨a1, a2, a3, a4, a5, a6, a7⟩
  refine W.widen hk hj (vx_ret ?_)
  exact W.zret F.1 F.2.1 (F.2.2.2.1.trans hr) hn (fun t ht _ => ⟨some (.int x), ad, n, A, rfl, a1, a2, hP, by rw [ht]; exact a3, fun y hy => by cases hy; trivial, a4.F ht⟩) a4.2.2 hd F.2.2.2.2.1
theorem J_lreturn {x : Int64} (hd : decode M.2.2.1 pc = .ok (.lreturn, 1)) (hr : M.2.2.2.2.1 = some .long) (hk : k ≤ mc) (hj : j ≤ ms) (hP : Post (.inl (some (.long x))) A n) : xx_J G l M fr lo mc ms Post pc L [.long x] A n k j := by
  intro p e s m args below meth c ad0 n0 F ad H locs ls ⟨a1, a2, a3, a4, a5, a6, a7⟩
  refine W.widen hk hj (vx_ret ?_)
  exact W.lret F.1 F.2.1 (F.2.2.2.1.trans hr) (fun t ht _ => ⟨some (.long x), ad, n, A, rfl, a1, a2, hP, by rw [ht]; exact a3, fun y hy => by cases hy; trivial, a4.F ht⟩) a4.2.2 hd F.2.2.2.2.1
theorem J_dreturn {x : UInt64} (hd : decode M.2.2.1 pc = .ok (.dreturn, 1)) (hr : M.2.2.2.2.1 = some .double) (hk : k ≤ mc) (hj : j ≤ ms) (hP : Post (.inl (some (.double x))) A n) : xx_J G l M fr lo mc ms Post pc L [.double x] A n k j := by
  intro p e s m args below meth c ad0 n0 F ad H locs ls ⟨a1, a2, a3, a4, a5, a6, a7⟩
  have hlocks := F.2.2.2.2.1
  refine W.widen hk hj (vx_ret ?_)
  exact W.dret F.1 F.2.1 (F.2.2.2.1.trans hr) (fun t ht _ => ⟨some (.double x), ad, n, A, rfl, a1, a2, hP, by rw [ht]; exact a3, fun y hy => by cases hy; trivial, a4.F ht⟩) a4.2.2 hd hlocks
theorem J_areturn {x : Nat} {C : String} (hd : decode M.2.2.1 pc = .ok (.areturn, 1)) (hr : M.2.2.2.2.1 = some (.object C)) (hk : k ≤ mc) (hj : j ≤ ms) (hP : Post (.inl (some (.ref x))) A n) : xx_J G l M fr lo mc ms Post pc L [.ref x] A n k j := by
  intro p e s m args below meth c ad0 n0 F ad H locs ls ⟨a1, a2, a3, a4, a5, a6, a7⟩
  refine W.widen hk hj (vx_ret ?_)
  exact W.aret (rt := .object C) F.1 F.2.1 (F.2.2.2.1.trans hr) (Or.inl ⟨C, rfl⟩) (Or.inr ⟨ad x, rfl⟩) (fun t ht _ => ⟨some (.ref x), ad, n, A, rfl, a1, a2, hP, by rw [ht]; exact a3, fun y hy => by cases hy; exact a6 _ List.mem_cons_self, a4.F ht⟩) a4.2.2 hd F.2.2.2.2.1
theorem J_return (hd : decode M.2.2.1 pc = .ok (.return_, 1)) (hr : M.2.2.2.2.1 = none) (hk : k ≤ mc) (hj : j ≤ ms) (hP : Post (.inl none) A n) : xx_J G l M fr lo mc ms Post pc L [] A n k j := by
  intro p e s m args below meth c ad0 n0 F ad H locs ls ⟨a1, a2, a3, a4, a5, a6, a7⟩
  refine W.widen hk hj (vx_ret ?_)
  exact W.vret F.1 F.2.1 (F.2.2.2.1.trans hr) (fun t ht _ => ⟨none, ad, n, A, rfl, a1, a2, hP, by rw [ht]; exact a3, (fun y hy => by cases hy), a4.F ht⟩) a4.2.2 hd F.2.2.2.2.1
theorem xx_J.mono {Post' : xx_Q} (h : ∀ r A n, Post r A n → Post' r A n) (J : xx_J G l M fr lo mc ms Post pc L S A n k j) : xx_J G l M fr lo mc ms Post' pc L S A n k j := by
  intro p e s m args below meth c ad0 n0 F ad H locs ls a
  refine W.mono (fun t ht => ?_) (J p e s m args below meth c ad0 n0 F ad H locs ls a)
  obtain ⟨o, b1, b2, b3⟩ := ht
  refine ⟨o, b1, b2, ?_⟩
  rcases b3 with ⟨⟨v, ad', n', A', c1, c2, c3, c4, c5⟩, hL⟩ | ⟨q, hq, E, ce, L9, ⟨ad', n', A', c2, c3, c4, c5⟩, hr⟩
  · exact Or.inl ⟨⟨v, ad', n', A', c1, c2, c3, h _ _ _ c4, c5⟩, hL⟩
  · exact Or.inr ⟨q, hq, E, ce, L9, ⟨ad', n', A', c2, c3, h _ _ _ c4, c5⟩, hr⟩
/-- a body without handlers -/
theorem J_C {y : MethodName} {vs : List Value} (hst : l.stackTraces = false) (hy : plainName y.cls = true) (h1 : y.cls = M.1) (h2 : y.name = M.2.1) (hh : M.2.2.2.2.2 = []) (hl : (lg_sl vs).length ≤ M.2.2.2.1) (J : xx_J G l M fr lo mc ms Post 0 (lv_args 0 vs) [] A n 0 0) : xx_C G l y M fr lo mc ms vs A n Post := by
  intro ad
  refine vx_ofW (cc := M.2.2.1) (maxL := M.2.2.2.1) (ret := M.2.2.2.2.1) (ws' := xx_T) hy (by unfold xx_code; rw [hh]) ?_
  intro p e s m args below meth c s₁ B hml ht hv
  obtain ⟨rfl, hP, hK, hz, hw⟩ := hv
  have hts := atoms_spec (ws := xx_code y M :: xx_T) B.pre
  have hown : s.vm.findClass y.cls = some m.cls := findClass_of_methodNamed B.named
  rw [h1] at hown
  refine J.entry hl ⟨B.exec, B.bytes, hml, B.returns, B.notSynchronized, (name_of_methodNamed B.named B.method).1.trans h2, hown, fun w h => hts w (List.mem_cons_of_mem _ h), ?_, hst, hK, hz⟩ hP hw
  rw [hh]
  exact List.eq_nil_iff_forall_not_mem.mpr ht
/-- a body with handlers -/
theorem J_CH {y : MethodName} {vs : List Value} {h0 : Nat × Nat × Nat × Nat} {hs : List (Nat × Nat × Nat × Nat)} (hst : l.stackTraces = false) (hy : plainName y.cls = true) (h1 : y.cls = M.1) (h2 : y.name = M.2.1) (hh : M.2.2.2.2.2 = h0 :: hs) (hl : (lg_sl vs).length ≤ M.2.2.2.1) (J : xx_J G l M fr lo mc ms Post 0 (lv_args 0 vs) [] A n 0 0) : xx_C G l y M fr lo mc ms vs A n Post := by
  intro ad
  have hcode : xx_code y M = Cond.codeWith y M.2.2.1 M.2.2.2.1 M.2.2.2.2.1 (h0 :: hs) := by unfold xx_code; rw [hh]
  refine vx_ofWH (cc := M.2.2.1) (maxL := M.2.2.2.1) (ret := M.2.2.2.2.1) (hh := h0 :: hs) (ws' := xx_T) hy (by rw [hcode]) ?_
  intro p e s m args below meth c s₁ B hml hv
  obtain ⟨rfl, hP, hK, hz, hw⟩ := hv
  have hts := atoms_spec (ws := xx_code y M :: xx_T) B.pre
  have hown : s.vm.findClass y.cls = some m.cls := findClass_of_methodNamed B.named
  rw [h1] at hown
  have htab := vx_table (x := y) B (by have := hts _ List.mem_cons_self; rw [hcode] at this; exact this)
  refine J.entry hl ⟨B.exec, B.bytes, hml, B.returns, B.notSynchronized, (name_of_methodNamed B.named B.method).1.trans h2, hown, fun w h => hts w (List.mem_cons_of_mem _ h), ?_, hst, hK, hz⟩ hP hw
  rw [hh]
  exact htab
/-- a body that never throws -/
theorem J_D {y : MethodName} {vs : List Value} (hst : l.stackTraces = false) (hy : plainName y.cls = true) (h1 : y.cls = M.1) (h2 : y.name = M.2.1) (hh : M.2.2.2.2.2 = []) (hl : (lg_sl vs).length ≤ M.2.2.2.1) (hno : ∀ E A n, ¬ Post (.inr E) A n) (J : xx_J G l M fr lo mc ms Post 0 (lv_args 0 vs) [] A n 0 0) : xx_D G l y M fr lo mc ms vs A n Post := by
  intro ad
  refine Met.ofW (cc := M.2.2.1) (maxL := M.2.2.2.1) (ret := M.2.2.2.2.1) (ws' := xx_T) hy (by unfold xx_code; rw [hh]) ?_
  intro p e s m args below meth c s₁ B hml hv
  obtain ⟨rfl, hP, hK, hz, hw⟩ := hv
  have hts := atoms_spec (ws := xx_code y M :: xx_T) B.pre
  have hown : s.vm.findClass y.cls = some m.cls := findClass_of_methodNamed B.named
  rw [h1] at hown
  have htab : c.exceptionTable.toList = tableOf M.2.2.2.2.2 := by
    rw [hh]
    obtain ⟨meth9, c9, g1, g2, -, -, -, -, g7, -⟩ := Cond.code_spec B.named (by have := hts _ List.mem_cons_self; unfold xx_code at this; rw [hh] at this; exact this)
    cases Option.some.inj (g1.symm.trans B.method)
    cases Option.some.inj (g2.symm.trans (Stand.of_body B).code)
    rw [Array.isEmpty_iff.mp g7]
    rfl
  refine W.mono (fun t ht => ?_) (J.entry hl ⟨B.exec, B.bytes, hml, B.returns, B.notSynchronized, (name_of_methodNamed B.named B.method).1.trans h2, hown, fun w h => hts w (List.mem_cons_of_mem _ h), htab, hst, hK, hz⟩ hP hw)
  obtain ⟨o, b1, b2, b3⟩ := ht
  rcases b3 with ⟨c1, c2⟩ | ⟨q, hq, E, ce, L9, ⟨ad', n', A', c2, c3, c4, c5⟩, hr⟩
  · exact ⟨o, b1, b2, c1, c2⟩
  · exact absurd c4 (hno _ _ _)
/-- what is asked of a method that is called -/
def xx_Cal (y : MethodName) (M : xx_M) (na : Nat) : Prop := xx_code y M ∈ xx_T ∧ Cond.initialized y.cls ∈ xx_T ∧ y.cls ≠ "java/lang/invoke/MethodHandle" ∧ y.cls ≠ "java/lang/invoke/VarHandle" ∧ (parseMethodDescriptor y.desc).map (fun d => d.parameters.length) = some na
theorem xx_wst {s : State} {args : Array Value} (hts : ∀ w ∈ xx_T, w.before args s = true) : ∀ w ∈ xx_T, ∀ (a' : Array Value) (U : State), s.WarmedH U.vm → w.before a' U = true := pay_in hts xx_gT
theorem xx_wst2 {s : State} {args : Array Value} {y : MethodName} {M : xx_M} (hts : ∀ w ∈ xx_T, w.before args s = true) (hc : xx_code y M ∈ xx_T) : ∀ w ∈ xx_code y M :: xx_T, ∀ (a' : Array Value) (U : State), s.WarmedH U.vm → w.before a' U = true := fun w hw =>
  (List.mem_cons.mp hw).elim (fun e => by rw [e]; exact xx_wst hts _ hc) (xx_wst hts w)
variable {p : Program} {e : Env} {s : State} {m : MethodId} {args : Array Value} {below : List Frame} {meth : Method} {c : Code}
/-- behind a call that returns or throws -/
theorem xx_run {ad0 : Nat → Nat} {n0 : Nat} {mc' ms' : Nat} {Post' : xx_Q} {a' : Array Value} {st0 : List Value} (F : xx_F G l M p s m args meth c) {ad : Nat → Nat} {H : Heap} {locs : List Loc} {ls : Array Slot} (a : xx_at G ad0 n0 M s L S A n ad H locs ls)
    (hr : vx_Run p l e { frames := fr, cells := mc, slots := ms, locals := lo } s m args below meth c H locs k j mc' ms' (F0 m pc ls st0) (S.map (xx_v ad)) (xx_Qc G ad n Post' a') (xx_Qx G ad n Post') (xx_A G))
    (kk : ∀ v A' n', n ≤ n' → Post' (.inl v) A' n' → xx_J G l M fr lo mc ms Post (pc + 3) L (v.toList ++ S) A' n' (k + mc') (j + ms'))
    (kx : ∀ E A' n', n ≤ n' → Post' (.inr E) A' n' → xx_JX G l M fr lo mc ms Post pc L E A' n' (k + mc') (j + ms')) :
    W p l e { frames := fr, cells := mc, slots := ms, locals := lo } s m args below meth c H locs k j (vx_MQ below (xx_Qc G ad0 n0 Post) (xx_Qx G ad0 n0 Post) args s mc ms (xx_A G)) (F0 m pc ls st0) := by
  obtain ⟨a1, a2, a3, a4, a5, a6, a7⟩ := a
  have go : ∀ (ad' : Nat → Nat) (n' : Nat), n ≤ n' → (∀ h, h < n → ad' h = ad h) → lv_has ls M.2.2.2.1 (L.map (fun q => (q.1, xx_v ad' q.2))) ∧ (∀ v ∈ S, xx_vw n' v) ∧ (∀ q ∈ L, xx_vw n' q.2) := by
    intro ad' n' hn hext
    refine ⟨?_, fun v hv => xx_vw_le hn (a6 v hv), fun q hq => xx_vw_le hn (a7 q hq)⟩
    have : L.map (fun q => (q.1, xx_v ad' q.2)) = L.map (fun q => (q.1, xx_v ad q.2)) := List.map_congr_left fun q hq => by rw [xx_v_ext hext (a7 q hq)]
    rw [this]
    exact a5
  intro T hT X
  rcases hr T hT X with ⟨v, st₀, t, T', L9, h0, X', hL, e1, e2, ⟨v', ad', n', A', hv, hn, hext, hP, hPic, hvw, hF⟩, st⟩ | ⟨q, st₀, t, T', L9, E, ce, h0, X', hL, e1, e2, ⟨ad', n', A', hn, hext, hP, hPic, hF⟩, hce, hcv, hcl, st⟩
  · cases hv
    obtain ⟨k1, k2, k3⟩ := vx_keep h0 e1 a4 (fun _ _ z => z) (fun _ z => z) hL hF
    obtain ⟨g1, g2, g3⟩ := go ad' n' hn hext
    have K := kk v' A' n' hn hP p e s m args below meth c ad0 n0 F ad' T'.heap (locs ++ L9) ls ⟨Nat.le_trans a1 hn, fun h hh => (hext h (Nat.lt_of_lt_of_le hh a1)).trans (a2 h hh), by rw [e1]; exact hPic, k3, g1, fun u hu => (List.mem_append.mp hu).elim (fun z => hvw u (by cases v' with
      | none => cases z
      | some x => rw [List.mem_singleton.mp z])) (g2 u), g3⟩
    have e9 : (v'.toList ++ S).map (xx_v ad') = (v'.map (xx_v ad')).toList ++ S.map (xx_v ad) := by
      rw [List.map_append, xx_map_ext hext a6]
      cases v' <;> rfl
    rw [e9] at K
    obtain ⟨t2, b1, b2⟩ := K T' rfl X'
    exact ⟨t2, st t2 b1, b2⟩
  · obtain ⟨k1, k2, k3⟩ := vx_keep h0 e1 a4 (fun _ _ z => z) (fun _ z => z) hL hF
    obtain ⟨g1, g2, g3⟩ := go ad' n' hn hext
    have K := kx E A' n' hn hP p e s m args below meth c ad0 n0 F ad' T'.heap (locs ++ L9) ls (S.map (xx_v ad)) q ce ⟨Nat.le_trans a1 hn, fun h hh => (hext h (Nat.lt_of_lt_of_le hh a1)).trans (a2 h hh), by rw [e1]; exact hPic, k3, g1, (fun _ hv => nomatch hv), g3⟩ (by rw [e1]; exact hce) hcv hcl
    obtain ⟨t2, b1, b2⟩ := K T' rfl X'
    exact ⟨t2, st.trans b1, b2⟩
/-- a callee's start -/
theorem xx_pre {ad0 : Nat → Nat} {n0 : Nat} (F : xx_F G l M p s m args meth c) {ad : Nat → Nat} {H : Heap} {locs : List Loc} {ls : Array Slot} {S0 : List Value} (a : xx_at G ad0 n0 M s L S0 A n ad H locs ls) {vs : List Value} (hw : ∀ v ∈ vs, xx_vw n v) :
    ∀ U : State, U.heap = H → s.WarmedH U.vm → xx_Pc G ad n vs A (vs.map (xx_v ad)).toArray U := by
  obtain ⟨a1, a2, a3, a4, a5, a6, a7⟩ := a
  intro U hU hW
  have hK := F.2.2.2.2.2.2.2.2.2.2.1
  refine ⟨rfl, by rw [hU]; exact a3, hK.go hW (fun q h1 h2 => by rw [hU]; exact a4.2.1 q h1 h2), ?_, hw⟩
  rw [hU]
  exact Nat.le_trans F.2.2.2.2.2.2.2.2.2.2.2 a4.1
theorem xx_catS {ad : Nat → Nat} {S : List Value} (h : (S.map fun v => v.category).sum ≤ 8) : ((S.map (xx_v ad)).map fun v => v.category).sum ≤ 8 := by
  rw [List.map_map]
  have : (fun v : Value => v.category) ∘ xx_v ad = fun v => v.category := by funext v; exact xx_cat ad v
  rw [this]
  exact h
theorem xx_rev {ad : Nat → Nat} (As S : List Value) (u : Value) : (As.reverse ++ u :: S).map (xx_v ad) = (As.map (xx_v ad)).reverse ++ xx_v ad u :: S.map (xx_v ad) := by simp
theorem xx_rev0 {ad : Nat → Nat} (As S : List Value) : (As.reverse ++ S).map (xx_v ad) = (As.map (xx_v ad)).reverse ++ S.map (xx_v ad) := by simp
theorem J_callVg {y : MethodName} {M' : xx_M} {na idx fr' lo' mc' ms' h : Nat} {As : List Value} {Post' : xx_Q} (hd : decode M.2.2.1 pc = .ok (.invokevirtual idx, 3)) (hl : Cond.methodLink M.1 idx y ∈ xx_T) (hc : xx_Cal y M' na) (hh : M'.2.2.2.2.2 = []) (hi : Cond.instanceMethod y ∈ xx_T) (hs : Cond.selects y.cls y y ∈ xx_T)
    (hrecv : ∀ (s : State) (H : Heap) (ad : Nat → Nat) (locs : List Loc), xx_P G ad n A H → xx_K G s s.heap → va_S (xx_A G) s.heap H locs → ∃ cellB : Cell, H[ad h]? = some cellB ∧ cellB.vm.isStatics = false ∧ s.vm.findClass y.cls = some cellB.cls)
    (hn : As.length = na) (hS : (S.map fun v => v.category).sum ≤ 8) (hR : fr' + 1 ≤ fr ∧ 8 + (M'.2.2.2.1 + 11) + lo' ≤ lo) (hf : k + mc' ≤ mc ∧ j + ms' ≤ ms) (hC : xx_C G l y M' fr' lo' mc' ms' (.ref h :: As) A n Post')
    (kk : ∀ v A' n', n ≤ n' → Post' (.inl v) A' n' → xx_J G l M fr lo mc ms Post (pc + 3) L (v.toList ++ S) A' n' (k + mc') (j + ms'))
    (kx : ∀ E A' n', n ≤ n' → Post' (.inr E) A' n' → xx_JX G l M fr lo mc ms Post pc L E A' n' (k + mc') (j + ms')) : xx_J G l M fr lo mc ms Post pc L (As.reverse ++ .ref h :: S) A n k j := by
  intro p e s m args below meth c ad0 n0 F ad H locs ls a
  have hcode : xx_code y M' = Cond.code y M'.2.2.1 M'.2.2.2.1 M'.2.2.2.2.1 := by unfold xx_code; rw [hh]
  obtain ⟨c1, c2, c3, c4, c5⟩ := hc
  have aS : xx_at G ad0 n0 M s L S A n ad H locs ls := ⟨a.1, a.2.1, a.2.2.1, a.2.2.2.1, a.2.2.2.2.1, fun v hv => a.2.2.2.2.2.1 v (List.mem_append_right _ (List.mem_cons_of_mem _ hv)), a.2.2.2.2.2.2⟩
  have hws := xx_wst2 (M := M') F.2.2.2.2.2.2.2.1 c1
  have hc9 : Cond.code y M'.2.2.1 M'.2.2.2.1 M'.2.2.2.2.1 ∈ xx_code y M' :: xx_T := by rw [hcode]; exact List.mem_cons_self
  rw [hcode] at c1
  rw [xx_rev]
  have hr := vx_runV (p := p) (l := l) (e := e) (R := { frames := fr, cells := mc, slots := ms, locals := lo }) (below := below) (meth := meth) (H := H) (locs := locs) (cells := k) (slots := j) (C := y.cls) (b := ad h) (As := As.map (xx_v ad)) (rest := S.map (xx_v ad)) (g := F0 m pc ls ((As.map (xx_v ad)).reverse ++ .ref (ad h) :: S.map (xx_v ad))) (index := idx) (bytes := M'.2.2.1) (maxL := M'.2.2.2.1) (ret := M'.2.2.2.2.1) (n := na)
    ⟨F.1, F.2.1, F.2.2.1, F.2.2.2.2.2.2.1, F.2.2.2.2.2.2.2.1⟩ (hC ad)
    ⟨⟨rfl, rfl, hR.1, hR.2, hws, hc9, F.2.2.2.2.2.2.2.1 _ c1, F.2.2.2.2.2.2.2.1 _ c2, ⟨c3, c4⟩, fun sig hsig => by rw [hsig] at c5; exact (Option.some.inj c5).symm, F.2.2.2.2.2.2.2.1 _ hl⟩, F.2.2.2.2.2.2.2.1 _ hi, F.2.2.2.2.2.2.2.1 _ hs⟩
    ⟨xx_Pc.blind, hrecv s H ad locs a.2.2.1 F.2.2.2.2.2.2.2.2.2.2.1 a.2.2.2.1, xx_pre F a (vs := .ref h :: As) (fun v hv => a.2.2.2.2.2.1 v (by
      rcases List.mem_cons.mp hv with e | hv
      · rw [e]; exact List.mem_append_right _ List.mem_cons_self
      · exact List.mem_append_left _ (List.mem_reverse.mpr hv)))⟩
    rfl (by rw [List.length_map]; exact hn) a.2.2.2.2.1.1 rfl (lv_room (xx_catS hS)) hd hf
  exact xx_run F aS hr kk kx
theorem J_callSg {y : MethodName} {M' : xx_M} {na idx fr' lo' mc' ms' : Nat} {As : List Value} {Post' : xx_Q} (hd : decode M.2.2.1 pc = .ok (.invokestatic idx, 3)) (hl : Cond.methodLink M.1 idx y ∈ xx_T) (hc : xx_Cal y M' na) (hh : M'.2.2.2.2.2 = []) (hi : Cond.static y ∈ xx_T)
    (hn : As.length = na) (hS : (S.map fun v => v.category).sum ≤ 8) (hR : fr' + 1 ≤ fr ∧ 8 + (M'.2.2.2.1 + 11) + lo' ≤ lo) (hf : k + mc' ≤ mc ∧ j + ms' ≤ ms) (hC : xx_C G l y M' fr' lo' mc' ms' As A n Post')
    (kk : ∀ v A' n', n ≤ n' → Post' (.inl v) A' n' → xx_J G l M fr lo mc ms Post (pc + 3) L (v.toList ++ S) A' n' (k + mc') (j + ms'))
    (kx : ∀ E A' n', n ≤ n' → Post' (.inr E) A' n' → xx_JX G l M fr lo mc ms Post pc L E A' n' (k + mc') (j + ms')) : xx_J G l M fr lo mc ms Post pc L (As.reverse ++ S) A n k j := by
  intro p e s m args below meth c ad0 n0 F ad H locs ls a
  have hcode : xx_code y M' = Cond.code y M'.2.2.1 M'.2.2.2.1 M'.2.2.2.2.1 := by unfold xx_code; rw [hh]
  obtain ⟨c1, c2, c3, c4, c5⟩ := hc
  have aS : xx_at G ad0 n0 M s L S A n ad H locs ls := ⟨a.1, a.2.1, a.2.2.1, a.2.2.2.1, a.2.2.2.2.1, fun v hv => a.2.2.2.2.2.1 v (List.mem_append_right _ hv), a.2.2.2.2.2.2⟩
  have hws := xx_wst2 (M := M') F.2.2.2.2.2.2.2.1 c1
  have hc9 : Cond.code y M'.2.2.1 M'.2.2.2.1 M'.2.2.2.2.1 ∈ xx_code y M' :: xx_T := by rw [hcode]; exact List.mem_cons_self
  rw [hcode] at c1
  rw [xx_rev0]
  have hr := vx_runS (p := p) (l := l) (e := e) (R := { frames := fr, cells := mc, slots := ms, locals := lo }) (below := below) (meth := meth) (H := H) (locs := locs) (cells := k) (slots := j) (As := As.map (xx_v ad)) (rest := S.map (xx_v ad)) (g := F0 m pc ls ((As.map (xx_v ad)).reverse ++ S.map (xx_v ad))) (index := idx) (bytes := M'.2.2.1) (maxL := M'.2.2.2.1) (ret := M'.2.2.2.2.1) (n := na)
    ⟨F.1, F.2.1, F.2.2.1, F.2.2.2.2.2.2.1, F.2.2.2.2.2.2.2.1⟩ (hC ad)
    ⟨⟨rfl, rfl, hR.1, hR.2, hws, hc9, F.2.2.2.2.2.2.2.1 _ c1, F.2.2.2.2.2.2.2.1 _ c2, ⟨c3, c4⟩, fun sig hsig => by rw [hsig] at c5; exact (Option.some.inj c5).symm, F.2.2.2.2.2.2.2.1 _ hl⟩, F.2.2.2.2.2.2.2.1 _ hi⟩
    ⟨xx_Pc.blind, xx_pre F a (vs := As) (fun v hv => a.2.2.2.2.2.1 v (List.mem_append_left _ (List.mem_reverse.mpr hv)))⟩
    rfl (by rw [List.length_map]; exact hn) a.2.2.2.2.1.1 rfl (lv_room (xx_catS hS)) hd hf
  exact xx_run F aS hr kk kx
/-- a static method with handlers -/
theorem J_callSX {y : MethodName} {M' : xx_M} {na idx fr' lo' mc' ms' : Nat} {As : List Value} {Post' : xx_Q} {h0 : Nat × Nat × Nat × Nat} {hs : List (Nat × Nat × Nat × Nat)} (hd : decode M.2.2.1 pc = .ok (.invokestatic idx, 3)) (hl : Cond.methodLink M.1 idx y ∈ xx_T) (hc : xx_Cal y M' na) (hh : M'.2.2.2.2.2 = h0 :: hs) (hi : Cond.static y ∈ xx_T)
    (hn : As.length = na) (hS : (S.map fun v => v.category).sum ≤ 8) (hR : fr' + 1 ≤ fr ∧ 8 + (M'.2.2.2.1 + 11) + lo' ≤ lo) (hf : k + mc' ≤ mc ∧ j + ms' ≤ ms) (hC : xx_C G l y M' fr' lo' mc' ms' As A n Post')
    (kk : ∀ v A' n', n ≤ n' → Post' (.inl v) A' n' → xx_J G l M fr lo mc ms Post (pc + 3) L (v.toList ++ S) A' n' (k + mc') (j + ms'))
    (kx : ∀ E A' n', n ≤ n' → Post' (.inr E) A' n' → xx_JX G l M fr lo mc ms Post pc L E A' n' (k + mc') (j + ms')) : xx_J G l M fr lo mc ms Post pc L (As.reverse ++ S) A n k j := by
  intro p e s m args below meth c ad0 n0 F ad H locs ls a
  have hcode : xx_code y M' = Cond.codeWith y M'.2.2.1 M'.2.2.2.1 M'.2.2.2.2.1 (h0 :: hs) := by unfold xx_code; rw [hh]
  obtain ⟨c1, c2, c3, c4, c5⟩ := hc
  have aS : xx_at G ad0 n0 M s L S A n ad H locs ls := ⟨a.1, a.2.1, a.2.2.1, a.2.2.2.1, a.2.2.2.2.1, fun v hv => a.2.2.2.2.2.1 v (List.mem_append_right _ hv), a.2.2.2.2.2.2⟩
  have hws := xx_wst2 (M := M') F.2.2.2.2.2.2.2.1 c1
  have hc9 : Cond.codeWith y M'.2.2.1 M'.2.2.2.1 M'.2.2.2.2.1 (h0 :: hs) ∈ xx_code y M' :: xx_T := by rw [hcode]; exact List.mem_cons_self
  rw [hcode] at c1
  rw [xx_rev0]
  have hr := vx_runSX (p := p) (l := l) (e := e) (R := { frames := fr, cells := mc, slots := ms, locals := lo }) (below := below) (meth := meth) (H := H) (locs := locs) (cells := k) (slots := j) (As := As.map (xx_v ad)) (rest := S.map (xx_v ad)) (g := F0 m pc ls ((As.map (xx_v ad)).reverse ++ S.map (xx_v ad))) (index := idx) (bytes := M'.2.2.1) (maxL := M'.2.2.2.1) (ret := M'.2.2.2.2.1) (n := na) (hh := h0 :: hs)
    ⟨F.1, F.2.1, F.2.2.1, F.2.2.2.2.2.2.1, F.2.2.2.2.2.2.2.1⟩ (hC ad)
    ⟨⟨rfl, rfl, hR.1, hR.2, hws, hc9⟩, F.2.2.2.2.2.2.2.1 _ c1, F.2.2.2.2.2.2.2.1 _ c2, ⟨c3, c4⟩, fun sig hsig => by rw [hsig] at c5; exact (Option.some.inj c5).symm, F.2.2.2.2.2.2.2.1 _ hl, F.2.2.2.2.2.2.2.1 _ hi⟩
    ⟨xx_Pc.blind, xx_pre F a (vs := As) (fun v hv => a.2.2.2.2.2.1 v (List.mem_append_left _ (List.mem_reverse.mpr hv)))⟩
    rfl (by rw [List.length_map]; exact hn) a.2.2.2.2.1.1 rfl (lv_room (xx_catS hS)) hd hf
  exact xx_run F aS hr kk kx
/-- a constructor, that never throws -/
theorem J_callI {y : MethodName} {M' : xx_M} {na idx fr' lo' mc' ms' h : Nat} {As : List Value} {Post' : xx_Q} (hd : decode M.2.2.1 pc = .ok (.invokespecial idx, 3)) (hl : (Cond.methodLink M.1 idx y ∈ xx_T) ∨ ∃ host, Cond.methodLinkNest M.1 idx y host ∈ xx_N) (hc : xx_Cal y M' na) (hh : M'.2.2.2.2.2 = []) (hr0 : M'.2.2.2.2.1 = none) (hy1 : y.name = "<init>") (hi : Cond.instanceMethod y ∈ xx_T)
    (hn : As.length = na) (hS : (S.map fun v => v.category).sum ≤ 8) (hR : fr' + 1 ≤ fr ∧ 8 + (M'.2.2.2.1 + 11) + lo' ≤ lo) (hf : k + mc' ≤ mc ∧ j + ms' ≤ ms) (hC : xx_D G l y M' fr' lo' mc' ms' (.ref h :: As) A n Post')
    (kk : ∀ v A' n', n ≤ n' → Post' (.inl v) A' n' → xx_J G l M fr lo mc ms Post (pc + 3) L (v.toList ++ S) A' n' (k + mc') (j + ms')) : xx_J G l M fr lo mc ms Post pc L (As.reverse ++ .ref h :: S) A n k j := by
  intro p e s m args below meth c ad0 n0 F ad H locs ls a
  have hcode : xx_code y M' = Cond.code y M'.2.2.1 M'.2.2.2.1 none := by unfold xx_code; rw [hh, hr0]
  obtain ⟨c1, c2, c3, c4, c5⟩ := hc
  have aS : xx_at G ad0 n0 M s L S A n ad H locs ls := ⟨a.1, a.2.1, a.2.2.1, a.2.2.2.1, a.2.2.2.2.1, fun v hv => a.2.2.2.2.2.1 v (List.mem_append_right _ (List.mem_cons_of_mem _ hv)), a.2.2.2.2.2.2⟩
  have hws := xx_wst2 (M := M') F.2.2.2.2.2.2.2.1 c1
  have hc9 : Cond.code y M'.2.2.1 M'.2.2.2.1 none ∈ xx_code y M' :: xx_T := by rw [hcode]; exact List.mem_cons_self
  rw [hcode] at c1
  rw [xx_rev]
  have hpre := xx_pre F a (vs := .ref h :: As) (fun v hv => a.2.2.2.2.2.1 v (by
      rcases List.mem_cons.mp hv with e | hv
      · rw [e]; exact List.mem_append_right _ List.mem_cons_self
      · exact List.mem_append_left _ (List.mem_reverse.mpr hv)))
  have hr : va_Run p l e { frames := fr, cells := mc, slots := ms, locals := lo } s m args below meth c H locs k j mc' ms' (F0 m pc ls ((As.map (xx_v ad)).reverse ++ .ref (ad h) :: S.map (xx_v ad))) (S.map (xx_v ad)) (xx_Qc G ad n Post' (Value.ref (ad h) :: As.map (xx_v ad)).toArray) (xx_A G) := by
    rcases hl with hl | ⟨host, hl⟩
    · exact va_runI (b := ad h) (As := As.map (xx_v ad)) (rest := S.map (xx_v ad)) (g := F0 m pc ls ((As.map (xx_v ad)).reverse ++ .ref (ad h) :: S.map (xx_v ad))) (index := idx) (bytes := M'.2.2.1) (maxL := M'.2.2.2.1) (n := na)
        ⟨F.1, F.2.1, F.2.2.1, F.2.2.2.2.2.2.1, F.2.2.2.2.2.2.2.1⟩ (hC ad)
        ⟨⟨rfl, rfl, hR.1, hR.2, hws, hc9, F.2.2.2.2.2.2.2.1 _ c1, F.2.2.2.2.2.2.2.1 _ c2, ⟨c3, c4⟩, fun sig hsig => by rw [hsig] at c5; exact (Option.some.inj c5).symm, F.2.2.2.2.2.2.2.1 _ hl⟩, hy1, F.2.2.2.2.2.2.2.1 _ hi⟩
        ⟨xx_Pc.blind, hpre⟩ rfl (by rw [List.length_map]; exact hn) a.2.2.2.2.1.1 rfl (lv_room (xx_catS hS)) hd hf
    · exact va_runIN (host := host) (b := ad h) (As := As.map (xx_v ad)) (rest := S.map (xx_v ad)) (g := F0 m pc ls ((As.map (xx_v ad)).reverse ++ .ref (ad h) :: S.map (xx_v ad))) (index := idx) (bytes := M'.2.2.1) (maxL := M'.2.2.2.1) (n := na)
        ⟨F.1, F.2.1, F.2.2.1, F.2.2.2.2.2.2.1, F.2.2.2.2.2.2.2.1⟩ (hC ad)
        ⟨⟨⟨rfl, rfl, hR.1, hR.2, hws, hc9⟩, F.2.2.2.2.2.2.2.1 _ c1, F.2.2.2.2.2.2.2.1 _ c2, ⟨c3, c4⟩, fun sig hsig => by rw [hsig] at c5; exact (Option.some.inj c5).symm, va_Nw.use rfl (F.2.2.2.2.2.2.2.2.2.2.1.2.1 _ hl)⟩, hy1, F.2.2.2.2.2.2.2.1 _ hi⟩
        ⟨xx_Pc.blind, hpre⟩ rfl (by rw [List.length_map]; exact hn) a.2.2.2.2.1.1 rfl (lv_room (xx_catS hS)) hd hf
  have hrx : vx_Run p l e { frames := fr, cells := mc, slots := ms, locals := lo } s m args below meth c H locs k j mc' ms' (F0 m pc ls ((As.map (xx_v ad)).reverse ++ .ref (ad h) :: S.map (xx_v ad))) (S.map (xx_v ad)) (xx_Qc G ad n (fun r A n => match r with | .inl v => Post' (.inl v) A n | .inr _ => False) (Value.ref (ad h) :: As.map (xx_v ad)).toArray) (xx_Qx G ad n (fun r A n => match r with | .inl v => Post' (.inl v) A n | .inr _ => False)) (xx_A G) := fun T hT X => Or.inl (hr T hT X)
  exact xx_run F aS hrx kk (fun E A' n' _ h => h.elim)
/-- Object's constructor -/
theorem J_objInit {idx h : Nat} (hd : decode M.2.2.1 pc = .ok (.invokespecial idx, 3)) (hl : Cond.methodLink M.1 idx objectInit ∈ xx_T) (hi : Cond.instanceMethod objectInit ∈ xx_T) (hc : Cond.code objectInit ⟨#[0xb1]⟩ 1 none ∈ xx_T) (hR : 1 ≤ fr ∧ (S.map fun v => v.category).sum + 12 ≤ lo) (kk : xx_J G l M fr lo mc ms Post (pc + 3) L S A n k j) : xx_J G l M fr lo mc ms Post pc L (.ref h :: S) A n k j := by
  intro p e s m args below meth c ad0 n0 F ad H locs ls ⟨a1, a2, a3, a4, a5, a6, a7⟩
  refine W.objInit F.1 F.2.1 F.2.2.2.2.2.2.1 (F.2.2.2.2.2.2.2.1 _ hl) (F.2.2.2.2.2.2.2.1 _ hi) (F.2.2.2.2.2.2.2.1 _ hc) rfl (a5.1.trans F.2.2.1.symm) rfl hd hR.1 ?_ (kk p e s m args below meth c ad0 n0 F ad H locs ls ⟨a1, a2, a3, a4, a5, xx_t a6, a7⟩)
  show 2 * 0 + ((S.map (xx_v ad)).map fun v => v.category).sum + 12 ≤ lo
  have h9 : ((S.map (xx_v ad)).map fun v => v.category) = S.map fun v => v.category := by
    rw [List.map_map]
    exact List.map_congr_left fun v _ => xx_cat ad v
  rw [h9]
  have := hR.2
  omega
/-- an exception that isn't caught here -/
theorem JX_out {E : String} (hh : M.2.2.2.2.2 = []) (hk : k ≤ mc) (hj : j ≤ ms) (hP : Post (.inr E) A n) : xx_JX G l M fr lo mc ms Post pc L E A n k j := by
  intro p e s m args below meth c ad0 n0 F ad H locs ls rest q ce ⟨a1, a2, a3, a4, a5, a6, a7⟩ h1 h2 h3
  have htab : c.exceptionTable.toList = [] := by rw [F.2.2.2.2.2.2.2.2.1, hh]; rfl
  exact vx_out (fun x hx => by rw [htab] at hx; cases hx) F.2.2.2.2.1 h1 h2 h3 (fun t ht _ => ⟨ad, n, A, a1, a2, hP, by rw [ht]; exact a3, a4.F ht⟩) a4.2.2 hk hj
end XXF
