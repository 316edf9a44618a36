/-! THE START, AND THE CLAIM -/
section XSV
variable {s : State} {b L : Nat} {xs : Nat → Int32}
/-- a private method above StringBuilder -/
theorem sel_asb {C : String} {N : Nat} {y g : MethodName} (hy : y.cls ≠ "java/lang/invoke/MethodHandle" ∧ y.cls ≠ "java/lang/invoke/VarHandle") (hg : g.cls = y.cls) (h1 : (Cond.instantiable C N).before #[Value.ref b] s = true) (h2 : (Cond.selects C g g).before #[Value.ref b] s = true) (h3 : (Cond.privateMethod y).before #[Value.ref b] s = true) (h4 : (Cond.instanceMethod y).before #[Value.ref b] s = true) : (Cond.selects C y y).before #[Value.ref b] s = true := by
  obtain ⟨c, k, hc, hk, -, hniab, -, -⟩ := Cond.instantiable_spec h1
  obtain ⟨mk, methM, hnamed, hmethM, -, -⟩ := Cond.instanceMethod_spec h4
  obtain ⟨c2, r2, m2, q1, q2, q3, q4, k2, q5, q6⟩ := Cond.selects_spec h2
  have hfound : s.methodFound? y.cls y.name y.desc = some mk := State.methodFound?_of_named hnamed hy
  have hcls : mk.cls = m2.cls := by
    have z1 := findClass_of_methodNamed hnamed
    have z2 := findClass_of_methodNamed q3
    rw [hg] at z2
    exact Option.some.inj (z1.symm.trans z2)
  have hsel : selectMethod {} s.vm c mk = .method mk := selectMethod_private hmethM (Cond.privateMethod_at h3 mk methM hnamed hmethM)
  simp only [Cond.before, Cond.holds, Cond.value, hc, hfound, hnamed, hsel, hcls, q5]
  simp; exact q6
theorem all_T (hts : tblH s b) : ∀ w ∈ xx_T, w.before #[Value.ref b] s = true := by
  intro w hw
  rcases List.mem_append.mp (List.mem_filter.mp hw).1 with hx | hx
  · have g : ∀ w, w ∈ lw_tbl → w.before #[Value.ref b] s = true := fun w hw => hts w hw
    have hi : (Cond.instantiable RJ4 4).before #[Value.ref b] s = true := hts _ (by decide +kernel)
    have hl : (Cond.selects RJ4 yJ5_isLatin1_aae02 yJ5_isLatin1_aae02).before #[Value.ref b] s = true := hts _ (by decide +kernel)
    simp only [xx_X, List.map_cons, List.map_nil, List.mem_cons, List.not_mem_nil, or_false] at hx
    rcases hx with rfl | rfl | rfl | rfl
    · exact sel_asb (g := yJ5_isLatin1_aae02) ⟨by decide +kernel, by decide +kernel⟩ rfl hi hl (hts _ (by decide +kernel)) (hts _ (by decide +kernel))
    · exact sel_asb (g := yJ5_isLatin1_aae02) ⟨by decide +kernel, by decide +kernel⟩ rfl hi hl (hts _ (by decide +kernel)) (hts _ (by decide +kernel))
    · exact sel_asb (g := yJ5_isLatin1_aae02) ⟨by decide +kernel, by decide +kernel⟩ rfl hi hl (hts _ (by decide +kernel)) (hts _ (by decide +kernel))
    · exact sel_asb (g := yJ5_isLatin1_aae02) ⟨by decide +kernel, by decide +kernel⟩ rfl hi hl (hts _ (by decide +kernel)) (hts _ (by decide +kernel))
  · exact hts w hx
theorem kn_all (hts : tblH s b) : ∃ D : va_G, ∀ (k : Nat) (q : vw_C), vwCl[k]? = some q → u_Kn s q.1 q.2.1 q.2.2 (D.1 k) (D.2 k) := by
  have g := all_T hts
  obtain ⟨c0, i0, h0⟩ := u_known g k_0.2.1 (g _ ins_BeltRounds_Field)
  obtain ⟨c1, i1, h1⟩ := u_known g k_1.2.1 (g _ ins_BeltRounds_Pairing)
  obtain ⟨c2, i2, h2⟩ := u_known g k_2.2.1 (g _ ins_BeltRounds_Reader)
  obtain ⟨c3, i3, h3⟩ := u_known g k_3.2.1 (g _ ins_BeltRounds_Rules)
  obtain ⟨c4, i4, h4⟩ := u_known g k_4.2.1 (g _ ins_BeltRounds_Tape)
  obtain ⟨c5, i5, h5⟩ := u_known g k_5.2.1 (g _ ins_BeltRounds)
  obtain ⟨c6, i6, h6⟩ := u_known g k_6.2.1 (g _ ins_BeltRoundsLaw_Sim)
  obtain ⟨c7, i7, h7⟩ := u_known g k_7.2.1 (g _ ins_BeltRoundsLaw_Tree)
  obtain ⟨c8, i8, h8⟩ := u_known g k_8.2.1 (g _ ins_java_lang_String)
  obtain ⟨c9, i9, h9⟩ := u_known g k_9.2.1 (g _ ins_java_lang_StringBuilder)
  refine ⟨(fun k => [c0, c1, c2, c3, c4, c5, c6, c7, c8, c9].getD k c0, fun k => [i0, i1, i2, i3, i4, i5, i6, i7, i8, i9].getD k i0), fun k q hq => ?_⟩
  match k, hq with
  | 0, hq => cases hq; exact h0
  | 1, hq => cases hq; exact h1
  | 2, hq => cases hq; exact h2
  | 3, hq => cases hq; exact h3
  | 4, hq => cases hq; exact h4
  | 5, hq => cases hq; exact h5
  | 6, hq => cases hq; exact h6
  | 7, hq => cases hq; exact h7
  | 8, hq => cases hq; exact h8
  | 9, hq => cases hq; exact h9
  | k + 10, hq => simp at hq
theorem arr_1 {ty : FieldType} (h : (Cond.arrayClass ty).before #[Value.ref b] s = true) : ∃ c, ArrOfT s c ty ∧ s.vm.findClass ("[" ++ ty.toString) = some c := by
  obtain ⟨c, k, comp, h1, h2, h3⟩ := Cond.arrayClass_spec (args := #[Value.ref b]) (first := s) (o := none) (s := s) (idx := []) h
  exact ⟨c, fun n z => ⟨fun k h => (by cases h), k, h2, comp, h3⟩, h1⟩
theorem arr_2 {C : String} (h : (Cond.arrayOver (.object C)).before #[Value.ref b] s = true) : ∃ c, ArrOfT s c (.object C) ∧ va_RA s c (.object C) := by
  obtain ⟨comp, c, k, h1, -, h2, h3, h4⟩ := Cond.arrayOver_spec (args := #[Value.ref b]) (first := s) (o := none) (s := s) (idx := []) h
  exact ⟨c, fun n z => ⟨fun k h => (by cases h), k, h2, comp, h3⟩, k, comp, h2, h3, h1, h4⟩
theorem arr_3 {t : FieldType} (h : (Cond.arrayOver (.array t)).before #[Value.ref b] s = true) : ∃ c, ArrOfT s c (.array t) ∧ s.vm.findClass ("[" ++ (FieldType.array t).toString) = some c := by
  obtain ⟨comp, c, k, -, -, h2, h3, h4⟩ := arrayOverA_spec (args := #[Value.ref b]) (first := s) (o := none) (s := s) (idx := []) h
  exact ⟨c, fun n z => ⟨fun k h => (by cases h), k, h2, comp, h3⟩, h4⟩
theorem odd_tab {w : Cond} (h : xx_odd w = true) : w.onTables = true := by
  cases w <;> first | (simp [xx_odd] at h; done) | rfl
theorem scr_eq {D : va_G} {dA : Nat → ClassId} (j : Nat) : xx_scr (gG D dA s b L xs) j = xs j := by
  show Int32.ofNat (adG s b L xs (401 + j)) = xs j
  have e : adG s b L xs (401 + j) = (xs j).toBitVec.toNat := by
    unfold adG
    rw [if_neg (by omega), if_neg (by omega), if_neg (by omega), Nat.add_sub_cancel_left]
  rw [e]
  refine Int32.toBitVec_inj.mp ?_
  show BitVec.ofNat 32 (xs j).toBitVec.toNat = (xs j).toBitVec
  exact BitVec.eq_of_toNat_eq (by rw [BitVec.toNat_ofNat, Nat.mod_eq_of_lt (BitVec.isLt _)])
theorem st_K (hs : narH s b) (hts : tblH s b) (hX : va_X b L xs s s.heap) (hbl : b < s.heap.size) : ∃ (D : va_G) (dA : Nat → ClassId), xx_K (gG D dA s b L xs) s s.heap := by
  obtain ⟨D, hD⟩ := kn_all hts
  have g := all_T hts
  obtain ⟨a0, x0_, y0⟩ := arr_1 (g _ ac_int)
  obtain ⟨a1, x1, y1⟩ := arr_1 (g _ ac_byte)
  obtain ⟨a2, x2, y2⟩ := arr_1 (g _ ac_boolean)
  have hI : (Cond.arrayOver (.array .int)).before #[Value.ref b] s = true := hts _ (by decide +kernel)
  have hO : (Cond.arrayOver (.object "BeltRounds$Sign")).before #[Value.ref b] s = true := hts _ (by decide +kernel)
  have hT : (Cond.arrayOver (.object "BeltRoundsLaw$Tree")).before #[Value.ref b] s = true := hts _ (by decide +kernel)
  have hS : (Cond.arrayOver (.object "java/lang/String")).before #[Value.ref b] s = true := hts _ (by decide +kernel)
  obtain ⟨a3, x3, y3⟩ := arr_3 hI
  obtain ⟨a4, x4, y4⟩ := arr_2 hO
  obtain ⟨a5, x5, y5⟩ := arr_2 hT
  obtain ⟨a6, x6, y6⟩ := arr_2 hS
  obtain ⟨scr, g1, g2, g3, g4, g5⟩ := hX
  refine ⟨D, fun k => [a0, a1, a2, a3, a4, a5, a6].getD k a0, ⟨hD, fun k q hk => ?_⟩, fun w hw => va_Nw.of (odd_tab (List.mem_filter.mp hw).2) (hts w (List.mem_filter.mp hw).1), ⟨va_AO.of hO, ⟨va_AO.of hT, va_AO.of hS, hI⟩, ?_⟩, st_S hs hts⟩
  · match k, hk with
    | 0, hk => cases hk; exact ⟨x0_, y0⟩
    | 1, hk => cases hk; exact ⟨x1, y1⟩
    | 2, hk => cases hk; exact ⟨x2, y2⟩
    | 3, hk => cases hk; exact ⟨x3, y3⟩
    | 4, hk => cases hk; exact ⟨x4, y4⟩
    | 5, hk => cases hk; exact ⟨x5, y5⟩
    | 6, hk => cases hk; exact ⟨x6, y6⟩
    | k + 7, hk => simp [xx_tys] at hk
  · refine ⟨scr, g1, g2, g3, ?_, ?_, fun j hj => ?_, hA9 b hbl⟩
    · show L ≤ scr.slots.size
      rw [g4]; exact Nat.le_refl L
    · show scr.slots.size.toInt32 = Int32.ofNat L
      rw [g4]
    · show scr.slots[j]? = some (Value.int (xx_scr _ j))
      rw [scr_eq]
      exact g5 j hj
end XSV
/-! THE CLAIM OUT OF ONE WALK OF THE LAW'S BODY. Your part is whole_start (and what it stands on); all else here is the same for every law, but numbers. -/
def R_law : String := "BeltRoundsLaw"
def lw_P (b : Addr) (xs : List Int32) (args : Array Value) (s : State) : Prop := args = #[.ref b] ∧ s.IntsAt b xs ∧ xs.length ≤ 260 ∧ (Jvm.Cond.and given_1 narrow_1).before args s = true
/-- what a walk over the start with the record d0 says of its end, said of the start itself -/
theorem lw_closed {s t : State} {o : Outcome} {d0 : Drawn} {L : List Loc} {k n : Nat} (hd0 : s.drawn.sameBut d0 lw_cs) (hv : ∃ v, o = .returned v) (hW : (s.setDrawn d0).WarmedH t.vm) (hs : (s.setDrawn d0).sameButNew ({ t with vm := s.vm } : State) L k n) : State.butDraws s t lw_cs (fun t1 => Framed s o t1 L k n) := by
  have h2 : t.drawn = d0 := congrArg State.drawn hs.1
  refine ⟨⟨hv, hW, State.sameButNew.setDrawn hs s.drawn⟩, ?_, by decide⟩
  rw [h2]
  exact hd0
def lw_Q (_ : Array Value) (s : State) (o : Outcome) (t : State) : Prop := o = .returned (some (.int 1)) ∧ State.butDraws s t lw_cs (fun t1 => Framed s o t1 [] 600086 7301442)
def lw_Z (below : List Frame) (a : Array Value) (s : State) : State → Prop := fun t => ∃ o, t.status = .running ∧ Ended t below o ∧ lw_Q a s o t
/-- the law's own end, with 1 on the stack, nothing written that was there before, its room as the claim has it; d0: the record of draws at this point (at the entry s.drawn: begin with 'refine W.base ?_' and 'have hd0 := Drawn.sameBut.refl s.drawn lw_cs') -/
theorem lw_ret {p : Program} {l : Launch} {e : Env} {s : State} {m : MethodId} {below : List Frame} {meth : Method} {c : Code} {b : Nat} {d0 : Drawn} (hd0 : s.drawn.sameBut d0 lw_cs) (hx : p.tables.exec = Jvm.exec) (hb : c.code = code) (hr : meth.sig.returnType = ret) (hlocks : meth.locks = false) {pc : Nat} {H : Heap} {ls : Array Slot} (hdg : decode code pc = .ok (.ireturn, 1)) : W p l e room_1 (s.setDrawn d0) m #[Value.ref b] below meth c H [] 600086 7301442 (lw_Z below #[Value.ref b] s) (F0 m pc ls [.int 1]) := by
  intro T hT X
  obtain ⟨fs, hret, hrun, hended, hW, hframe⟩ := X.leave (v := some (.int 1)) (hlocks := hlocks) (fun h => by rw [hr] at h; cases h)
  have hmeth' : T.vm.method? m = some meth := X.method'
  refine ⟨T.setFrames fs, ?_, .returned (some (.int 1)), hrun, hended, rfl, lw_closed hd0 ⟨_, rfl⟩ hW hframe⟩
  jvm_step X.here [X.here.top, hx, hb, hdg, hmeth', hr, ret, narrow_b1]
  (try refine ⟨rfl, ?_⟩); (try refine ⟨rfl, ?_⟩)
  first | (intro acts; rw [hret _ acts rfl rfl rfl]) | rw [hret _ _ rfl rfl rfl]
  exact Steps.refl _
/-- what holds at the law's entry: the machine, the code, the tables' words (any of lw_tbl by 'hts w (by decide +kernel)'), the script of L ints xs at the cell b, what the Statement gives of the start (any of its parts by flat_of_before) -/
def lw_At (p : Program) (s : State) (m : MethodId) (meth : Method) (c : Code) (b L : Nat) (xs : Nat → Int32) : Prop :=
  p.tables.exec = Jvm.exec ∧ c.code = code ∧ meth.sig.returnType = ret ∧ c.maxLocals = 18 ∧ s.vm.findClass R_law = some m.cls ∧ (∀ w ∈ lw_tbl, w.before #[Value.ref b] s = true) ∧ va_X b L xs s s.heap ∧ b < s.heap.size ∧ meth.locks = false ∧ (Jvm.Cond.and given_1 narrow_1).before #[Value.ref b] s = true
/-- YOUR PART: from the entry, for every script of at most 260 ints, the law comes to its end with true ('hflags': the launch's flags, for a law that throws: no stack traces) -/
theorem whole_start {p : Program} {e : Env} {s : State} {m : MethodId} {below : List Frame} {meth : Method} {c : Code} (l : Launch) (hflags : l.flags = flags0) {b L : Nat} {xs : Nat → Int32} (hL : L ≤ 260) (C0 : lw_At p s m meth c b L xs) (hnm : meth.name = "law") (htab : c.exceptionTable.toList = []) : W p l e room_1 s m #[Value.ref b] below meth c s.heap [] 0 0 (lw_Z below #[Value.ref b] s) (entryFrame m ([Value.ref b] : List Value).toArray 18) := by
  obtain ⟨hx, hb, hr, hml, hown, hts, hX, hbl, hlocks, hgv⟩ := id C0
  have hst : l.stackTraces = false := by
    unfold Launch.stackTraces
    rw [hflags]
    decide +kernel
  have hs : narH s b := fun w hw => flat_of_before _ hgv w hw
  obtain ⟨D, dA, hK⟩ := st_K hs hts hX hbl
  have F : xx_F (gG D dA s b L xs) l mL_law p s m #[Value.ref b] meth c := ⟨hx, hb, hml, hr, hlocks, hnm, hown, all_T hts, htab, hst, hK, Nat.le_refl _⟩
  have hP : xx_P (gG D dA s b L xs) (adG s b L xs) 400 (fun _ => none) s.heap := ⟨Nat.le_refl _, fun _ _ => rfl, fun h e he => (nomatch he), fun h h' e e' he => (nomatch he)⟩
  have J := law_all (b := 400) (G := gG D dA s b L xs) (l := l) hst (Nat.le_trans hL (by decide))
  have E := xx_J.entry (vs := [.ref 160]) (ad := adG s b L xs) (p := p) (e := e) (below := below) (Nat.le_of_ble_eq_true rfl) J F hP (fun v hv => by rw [List.mem_singleton.mp hv]; exact (by decide : (160 : Nat) < 400))
  refine W.mono (fun t ht => ?_) E
  obtain ⟨o, b1, b2, b3⟩ := ht
  refine ⟨o, b1, b2, ?_⟩
  rcases b3 with ⟨⟨v, ad', n', A', c1, c2, c3, c4, c5⟩, L9, hF, hfree⟩ | ⟨q, hq, E9, ce, L9, hx9, hr9⟩
  · have hv : v = some (.int 1) := Sum.inl.inj c4
    subst hv
    refine ⟨c1, ?_⟩
    obtain ⟨f1, f2, f3⟩ := hF
    exact lw_closed (d0 := s.drawn) (Drawn.sameBut.refl s.drawn lw_cs) ⟨_, c1⟩ f2 (State.sameButNew.drop_fresh (L := []) f3 (fun x hx => hfree x hx))
  · obtain ⟨ad', n', A', c2, c3, c4, c5⟩ := hx9
    exact absurd c4 (fun z => nomatch z)
set_option maxHeartbeats 4000000 in
theorem lw_walk (l : Launch) (hflags : l.flags = flags0) (b : Addr) (xs : List Int32) : MetFree l x (headSpec (Jvm.Cond.code x code maxLocals ret :: tables_1) room_1) (lw_P b xs) (fun _ _ _ _ _ => True) lw_Q := by
  refine MetFree.of_bodyS (code := code) (maxLocals := maxLocals) (ret := ret) (by decide) ?_ ?_
  · intro args s m h hn
    obtain ⟨meth, c, h1, h2, h3, h4, h5, h6, -, -⟩ := Cond.code_spec hn (atoms_spec (ws := Jvm.Cond.code x code maxLocals ret :: tables_1) h _ List.mem_cons_self)
    exact ⟨meth, c, h1, h2, h3, h4, h5, h6⟩
  · intro p e s m args below meth c s₁ B hml0 hP _
    obtain ⟨rfl, hx, hbd, hgv⟩ := hP
    obtain ⟨scr, harrAt, hlist, hof, hsmall⟩ := hx
    obtain ⟨hcb, hkn, -, -⟩ := State.arrayAt?_spec harrAt
    have hown : s.vm.findClass R_law = some m.cls := findClass_of_methodNamed B.named
    have hnm : meth.name = "law" := (name_of_methodNamed B.named B.method).1
    have htab : c.exceptionTable.toList = [] := by
      obtain ⟨meth9, c9, h1, h2, -, -, -, -, h7, -⟩ := Cond.code_spec B.named (atoms_spec (ws := Jvm.Cond.code x code maxLocals ret :: tables_1) B.pre _ List.mem_cons_self)
      cases Option.some.inj (h1.symm.trans B.method)
      cases Option.some.inj (h2.symm.trans (Stand.of_body B).code)
      rw [Array.isEmpty_iff.mp h7]
    have hts0 : ∀ c ∈ (Jvm.Cond.code x code maxLocals ret :: tables_1), c.before #[Value.ref b] s = true := atoms_spec (ws := Jvm.Cond.code x code maxLocals ret :: tables_1) B.pre
    have hts : ∀ w ∈ lw_tbl, w.before #[Value.ref b] s = true := k2_hts_sels lw_privs (fun w hw => hts0 w (List.mem_cons_of_mem _ hw)) lw_privs_ok
    have hml : c.maxLocals = 18 := B.maxLocals_eq (hts0 _ List.mem_cons_self)
    have X₀ : Stand p l e room_1 s m #[Value.ref b] below meth c s₁ [] 0 0 := Stand.of_body B
    have hh0 : s₁.heap = s.heap := by rw [B.state]; rfl
    have hsz : scr.slots.size = xs.length := by rw [← Array.length_toList, hlist, List.length_map]
    have hval : ∀ j : Nat, j < xs.length → scr.slots[j]? = some (.int (xs.getD j 0)) := fun j hj => by
      rw [← Array.getElem?_toList, hlist]
      simp [hj]
    have hbl : b < s.heap.size := (Array.getElem?_eq_some_iff.mp hcb).1
    have hX : va_X b xs.length (fun j => xs.getD j 0) s s.heap := ⟨scr, hcb, hof, hkn, hsz, hval⟩
    have K : W p l e room_1 s m #[Value.ref b] below meth c s₁.heap [] 0 0 (lw_Z below #[Value.ref b] s) (entryFrame m ([Value.ref b] : List Value).toArray 18) := by
      rw [hh0]
      exact whole_start l hflags hbd ⟨B.exec, B.bytes, B.returns, hml, hown, hts, hX, hbl, B.notSynchronized, hgv⟩ hnm htab
    obtain ⟨t, a1, o, b1, b2, b3⟩ := K s₁ rfl X₀
    exact ⟨t, o, a1, b1, b2, b3⟩
theorem lw_pre_spec {args : Array Value} {s : State} (h : (Jvm.Cond.and given_1 narrow_1).before args s = true) (hr : rest_1_c.before args s = true) : ∃ (b : Addr) (xs : List Int32), lw_P b xs args s := by
  have hs := flat_of_before _ h
  have hq := flat_of_before _ hr
  have hc : (Cond.count 1).before args s = true := hs _ (by decide +kernel)
  have harr : (Cond.arrayOf (.arg 0) .int).before args s = true := hs _ (by decide +kernel)
  have hle : (Cond.le (.length (.arg 0)) (.int 260)).before args s = true := hs _ (by decide +kernel)
  have hlen : (Cond.isInt (.length (.arg 0))).before args s = true := hq _ (by decide +kernel)
  have hall : (Cond.all (.arg 0) (.isInt (.elem (.arg 0) (.index 0)))).before args s = true := hq _ (by decide +kernel)
  obtain ⟨b, xs, hb, hx⟩ := State.ints_of_pre rfl harr hlen hall
  have hsm : xs.length < 2 ^ 31 := hx.choose_spec.2.2.2
  have hev : (Term.length (.arg 0)).eval args s none [] s = some (.int xs.length.toInt32) := hx.length_eval hb
  have hv := Cond.le_ints hev (show (Term.int 260).eval args s none [] s = some (.int 260) from rfl)
  have hd : xs.length.toInt32 ≤ 260 := by
    simpa [Cond.before, Cond.holds, hv] using hle
  have hN : xs.length ≤ 260 := (Int32.ofNat_le_ofNat hsm (by decide)).mp (show Int32.ofNat xs.length ≤ Int32.ofNat 260 from hd)
  exact ⟨b, xs, Cond.one_arg hc (show args[0]? = some (.ref b) from hb), hx, hN, h⟩
theorem lw_comes (l : Launch) (hflags : l.flags = flags0) : Comes l x (Jvm.Cond.code x code maxLocals ret :: tables_1) room_1 (fun tb e args s => Calls_1 tb e args s ∧ rest_1 tb e args s ∧ Pre_1 tb e args s)
    (fun _ _ args s o t => lw_Q args s o t) := by
  intro p e ha hc hk s m args below hf hfit hheap happ hpre
  obtain ⟨b, xs, hP⟩ := lw_pre_spec hpre.2.2 hpre.2.1
  obtain ⟨k, o, h1, h2, h3, hQ⟩ := lw_walk l hflags b xs p e ha hc hk s m args below hf ((Spec.applies_iff_loose hf).mp happ).1 hP trivial
  exact ⟨k, o, h1, h2, h3, hQ⟩
theorem lw_frame {s t : State} {o : Outcome} {args : Array Value} (h : State.butDraws s t lw_cs (fun t1 => Framed s o t1 [] 600086 7301442)) :
    State.butDraws s t [Jvm.Choice.named "NaN.bits"] (fun t1 => Framed s o t1 (fieldLocs frame_1_writes args s ++ arrayLocs frame_1_arrays args s ++ staticLocs frame_1_statics s) 600086 7301442) := h
theorem lw_limb (L : Cond) (hL : ∀ (args : Array Value) (s t : State), L.after args s (.returned (some (.int 1))) t = true) :
    ArmFor flags0 classFile x code maxLocals ret World_1 tables_1 room_1 Calls_1 rest_1 Pre_1
      (fun tb e a s o t => postC L tb e a s o t ∧ State.butDraws s t [Jvm.Choice.named "NaN.bits"] (fun t1 => Framed s o t1 (fieldLocs frame_1_writes a s ++ arrayLocs frame_1_arrays a s ++ staticLocs frame_1_statics s) 600086 7301442)) := by
  intro l hflags _ _ p e ha hc hk s m args below hf hfit hheap happ hpre
  obtain ⟨k, o, h1, h2, h3, rfl, hF⟩ := lw_comes l hflags p e ha hc hk s m args below hf hfit hheap happ hpre
  exact ⟨k, _, h1, h2, h3, hL args s _, lw_frame hF⟩
theorem i_vc : Claimed_1_1 ∧ Claimed_1_2 := ⟨lw_limb limb_1_1 (fun args s t => by simp [limb_1_1, Cond.after, Cond.holds, Cond.value]), lw_limb limb_1_2 (fun args s t => Cond.after_iff.mpr (by
  first | (rw [show limb_1_2 = Cond.eq .result (.int 1) from rfl, Cond.eq_ints (x := 1) (y := 1) rfl rfl]; simp; done) | (simp [limb_1_2, Cond.value, Term.eval]; done)))⟩
