/-! ===== BEGIN a method of a class above, found by the receiver, that may throw (follows va_callVU, va_runU of this kit) ===== -/
section
variable {p : Program} {l : Launch} {e : Env} {R : Room} {s : State} {m : MethodId} {args : Array Value} {below : List Frame} {meth : Method} {c : Code} {H : Heap} {locs : List Loc} {cells slots : Nat}
theorem vx_callVU {T : State} {locs : List Loc} {cells slots : Nat} (X : Stand p l e R s m args below meth c T locs cells slots) (hexec : p.tables.exec = Jvm.exec) {own C owner : String} {index : Nat} {x y : MethodName} {bytes : ByteArray} {maxL : Nat} {ret : Option FieldType}
    (hown : s.vm.findClass own = some m.cls) (hlink : (Cond.methodLink own index x).before args s = true) (hsame : (Cond.sameMethod x.cls owner x.name x.desc).before args s = true)
    (hd0 : va_Decl s ⟨owner, x.name, x.desc⟩) (howner : owner ≠ "java/lang/invoke/MethodHandle" ∧ owner ≠ "java/lang/invoke/VarHandle")
    (hsel : (Cond.selects C x y).before args s = true) (hinst : (Cond.instanceMethod y).before args s = true) (hcode : (Cond.code y bytes maxL ret).before args s = true)
    {W : Nat} {Pre : Pt → Array Value → Prop} {Post : Pt → Array Value → Option Value → Pt → Prop} {PostX : Pt → Array Value → Addr → Pt → Prop} (hK : vx_Back l R p e below s args y 3 W Pre Post PostX)
    {b : Addr} {cellB : Cell} (hcell : T.heap[b]? = some cellB) (hobj : cellB.vm.isStatics = false) (hcls : s.vm.findClass C = some cellB.cls)
    {g : JFrame} (hg : g.method = m) (hsize : g.locals.size = c.maxLocals) {argsL rest : List Value} (hlen : ∀ sig, parseMethodDescriptor x.desc = some sig → argsL.length = sig.parameters.length)
    (hstack : g.stack = argsL.reverse ++ .ref b :: rest) (hW : 2 * g.monitorRoom + (rest.map fun v => v.category).sum ≤ W) (hdg : decode c.code g.pc = .ok (.invokevirtual index, 3))
    (hpre : ∀ vm₁, s.WarmedH vm₁ → Pre ⟨T.setVm vm₁, locs, cells, slots⟩ (Value.ref b :: argsL).toArray) :
    (∃ (v : Option Value) (vm₁ : Vm) (B : Pt), s.WarmedH vm₁ ∧ Stand p l e R s m args below meth c B.U B.locs B.cells B.slots ∧ Post ⟨T.setVm vm₁, locs, cells, slots⟩ (Value.ref b :: argsL).toArray v B ∧
      ∀ target, Steps p.tables e below (B.U.setTop { g with pc := g.pc + 3, stack := v.toList ++ rest }) target → Steps p.tables e below (T.setTop g) target) ∨
    (∃ (q : Addr) (vm₁ : Vm) (B : Pt), s.WarmedH vm₁ ∧ Stand p l e R s m args below meth c B.U B.locs B.cells B.slots ∧ PostX ⟨T.setVm vm₁, locs, cells, slots⟩ (Value.ref b :: argsL).toArray q B ∧
      Steps p.tables e below (T.setTop g) ((B.U.setTop { g with stack := rest }).pushFrame (.throwing q))) := by
  obtain ⟨r0, r, hn, hrm, hstR, hsigR⟩ := hd0
  obtain ⟨cn, ck, r1, hcn, hck, hni, hf, hn1⟩ := Cond.sameMethod_found hsame
  cases hn.symm.trans hn1
  obtain ⟨mk, methM, hnamed, hmethM, -, habM⟩ := Cond.instanceMethod_spec hinst
  obtain ⟨c2, r2, m2, q1, q2, q3, q4, kP, hkP, hkPi⟩ := Cond.selects_spec hsel
  cases hcls.symm.trans q1
  cases hf.symm.trans q2
  cases hnamed.symm.trans q3
  have hselP : selectMethod e.platform s.vm cellB.cls r0 = .method mk := by rw [Launch.admits_selectMethod X.admits]; exact q4
  obtain ⟨vm₁, X₁, hstep₁⟩ := X.invokevirtualUp hexec hown hlink hsame howner hn hrm hstR (a := b) (cell := cellB) hcell
    (fun z h => by rw [h] at hobj; cases hobj) hselP hmethM habM hkP hkPi (g := g) hg (argsL := argsL) (rest := rest) (hlen _ hsigR) hstack hdg
  rcases hK m meth c ⟨T.setVm vm₁, locs, cells, slots⟩ { g with stack := rest } (.invokevirtual index) mk (Value.ref b :: argsL).toArray X₁ hg hsize hdg hW (X₁.named hnamed) (hpre vm₁ X₁.warmed) with ⟨v, B, X', hpost, hsteps⟩ | ⟨q, B, X', hpost, hsteps⟩
  · exact Or.inl ⟨v, vm₁, B, X₁.warmed, X', hpost, fun target h => hstep₁ _ fun acts => by rw [doInvoke_state]; exact hsteps.trans h⟩
  · exact Or.inr ⟨q, vm₁, B, X₁.warmed, X', hpost, hstep₁ _ fun acts => by rw [doInvoke_state]; exact hsteps⟩
theorem vx_runU {x y : MethodName} {bytes cc : ByteArray} {maxL nL mc ms n index : Nat} {ret : Option FieldType} {ws : List Cond} {rm : Room} {Pc : Array Value → State → Prop} {Qc : Array Value → State → Outcome → State → Prop} {XC : String → State → State → Prop} {free : Addr → Prop} {Ts : List Cond} {own C owner : String} {b : Addr} {As rest : List Value} {g : JFrame}
    (S : CallFix p m c cc nL s args Ts own) (hM : vx_Met l y ws rm Pc Qc XC mc ms free) (cw : va_CU R s args own C owner index x y bytes maxL ret ws rm mc ms n) (hp : PreV s H C b Pc As)
    (hg : g.method = m) (hn : As.length = n) (hsize : g.locals.size = nL) (hstack : g.stack = As.reverse ++ .ref b :: rest) (hW : 2 * g.monitorRoom + (rest.map fun v => v.category).sum ≤ 8) (hdg : decode cc g.pc = .ok (.invokevirtual index, 3)) (hf : cells + mc ≤ R.cells ∧ slots + ms ≤ R.slots) :
    vx_Run p l e R s m args below meth c H locs cells slots mc ms g rest (Qc (Value.ref b :: As).toArray) XC free := by
  obtain ⟨hrc, hrs, hfr, hlo, hws, hcw⟩ := cw.back
  have hini := cw.init
  have hK : vx_Back l R p e below s args y 3 8 (PreOf R mc ms Pc) (PostOf Qc mc ms free) (vx_Post XC mc ms free) := vx_back (bytes := bytes) (maxL := maxL) (ret := ret) hM hp.1 hrc hrs hfr hlo hws hcw (fun a' U hW => word_at hW (Or.inl (by first | rfl | simp [Cond.onTables, Cond.keeps, Cond.steady])) hini)
  obtain ⟨hx, hb, hml, ho, -⟩ := S
  obtain ⟨-, ⟨cellB, hcB, hoB, hclB⟩, hPc⟩ := hp
  intro T hT X
  rcases vx_callVU X hx (C := C) (owner := owner) (bytes := bytes) (maxL := maxL) (ret := ret) ho cw.link cw.same cw.decl cw.notMH cw.sel cw.inst cw.code hK (by rw [hT]; exact hcB) hoB hclB hg (hsize.trans hml.symm) (argsL := As) (rest := rest) (fun sig h => hn.trans (cw.len sig h)) hstack hW (by rw [hb]; exact hdg)
    (fun vm₁ hW₁ => ⟨hf.1, hf.2, hPc (T.setVm vm₁) hT hW₁⟩) with ⟨v, vm₁, ⟨U', l2, c2, s2⟩, hW₁, X', ⟨g', mk, t, L, e1, e2, hq, h1, hL, h2, h3⟩, st⟩ | ⟨q, vm₁, ⟨U', l2, c2, s2⟩, hW₁, X', ⟨g', mk, t, L, E, ce, e1, e2, hq, hce, hcv, hcl, h1, hL, h2, h3⟩, st⟩
  · dsimp only [Pt.U, Pt.locs, Pt.cells, Pt.slots] at X' e1 e2 h1 h2 h3 st
    subst h1; subst h2; subst h3
    exact Or.inl ⟨v, (T.setVm vm₁).calling g' mk (Value.ref b :: As).toArray, t, U', L, hT, X', hL, e1, e2, hq, st⟩
  · dsimp only [Pt.U, Pt.locs, Pt.cells, Pt.slots] at X' e1 e2 h1 h2 h3 st hcl
    subst h1; subst h2; subst h3
    exact Or.inr ⟨q, (T.setVm vm₁).calling g' mk (Value.ref b :: As).toArray, t, U', L, E, ce, hT, X', hL, e1, e2, hq, hce, hcv, vx_cls hW₁ hcl, st⟩
end
/-! ===== END ===== -/
/-! ===== BEGIN super.m(..) that may throw (follows va_callSU, va_runSU) ===== -/
section
variable {p : Program} {l : Launch} {e : Env} {R : Room} {s : State} {m : MethodId} {args : Array Value} {below : List Frame} {meth : Method} {c : Code} {H : Heap} {locs : List Loc} {cells slots : Nat}
theorem vx_callSU {T : State} {locs : List Loc} {cells slots : Nat} (X : Stand p l e R s m args below meth c T locs cells slots) (hexec : p.tables.exec = Jvm.exec) {own : String} {index : Nat} {y : MethodName} {bytes : ByteArray} {maxL : Nat} {ret : Option FieldType}
    (hown : s.vm.findClass own = some m.cls) (hlink : (Cond.methodLink own index y).before args s = true) (hsame : (Cond.sameMethod y.cls y.cls y.name y.desc).before args s = true) (hsup : (Cond.superclass own y.cls).before args s = true)
    (hinst : (Cond.instanceMethod y).before args s = true) (hcode : (Cond.code y bytes maxL ret).before args s = true) (hno : y.name ≠ "<init>")
    {W : Nat} {Pre : Pt → Array Value → Prop} {Post : Pt → Array Value → Option Value → Pt → Prop} {PostX : Pt → Array Value → Addr → Pt → Prop} (hK : vx_Back l R p e below s args y 3 W Pre Post PostX)
    {b : Addr} {cellB : Cell} {kB : Class} (hcell : T.heap[b]? = some cellB) (hobj : cellB.vm.isStatics = false) (hkB : s.vm.classes[cellB.cls]? = some kB)
    {g : JFrame} (hg : g.method = m) (hsize : g.locals.size = c.maxLocals) {argsL rest : List Value} (hlen : ∀ sig, parseMethodDescriptor y.desc = some sig → argsL.length = sig.parameters.length)
    (hstack : g.stack = argsL.reverse ++ .ref b :: rest) (hW : 2 * g.monitorRoom + (rest.map fun v => v.category).sum ≤ W) (hdg : decode c.code g.pc = .ok (.invokespecial index, 3))
    (hpre : ∀ vm₁, s.WarmedH vm₁ → Pre ⟨T.setVm vm₁, locs, cells, slots⟩ (Value.ref b :: argsL).toArray) :
    (∃ (v : Option Value) (vm₁ : Vm) (B : Pt), s.WarmedH vm₁ ∧ Stand p l e R s m args below meth c B.U B.locs B.cells B.slots ∧ Post ⟨T.setVm vm₁, locs, cells, slots⟩ (Value.ref b :: argsL).toArray v B ∧
      ∀ target, Steps p.tables e below (B.U.setTop { g with pc := g.pc + 3, stack := v.toList ++ rest }) target → Steps p.tables e below (T.setTop g) target) ∨
    (∃ (q : Addr) (vm₁ : Vm) (B : Pt), s.WarmedH vm₁ ∧ Stand p l e R s m args below meth c B.U B.locs B.cells B.slots ∧ PostX ⟨T.setVm vm₁, locs, cells, slots⟩ (Value.ref b :: argsL).toArray q B ∧
      Steps p.tables e below (T.setTop g) ((B.U.setTop { g with stack := rest }).pushFrame (.throwing q))) := by
  obtain ⟨mk, methM, hnamed, hmethM, hstM, habM⟩ := Cond.instanceMethod_spec hinst
  obtain ⟨methM', cM, hmethM', -, -, -, -, -, -, hsigM⟩ := Cond.code_spec hnamed hcode
  cases hmethM.symm.trans hmethM'
  obtain ⟨ps, dk, kp, hps, hdk, hkp, hsuper, -, -, hnid⟩ := Cond.superclass_spec hown hsup
  have hn : s.methodNamed? ⟨y.cls, y.name, y.desc⟩ = some mk := hnamed
  have hpm : ps = mk.cls := Option.some.inj (hps.symm.trans (findClass_of_methodNamed hnamed))
  have hsub : s.vm.isSubclass ps mk.cls = true := by rw [hpm]; simp [Vm.isSubclass, Vm.isSubclassAux]
  obtain ⟨vm₁, X₁, hstep₁⟩ := X.invokespecialUp hexec hown hlink hsame hn hmethM hstM habM hno hdk hnid hps hsuper hsub (a := b) (cell := cellB) hcell
    (fun z h => by rw [h] at hobj; cases hobj) hkB (g := g) hg (argsL := argsL) (rest := rest) (hlen _ hsigM) hstack hdg
  rcases hK m meth c ⟨T.setVm vm₁, locs, cells, slots⟩ { g with stack := rest } (.invokespecial index) mk (Value.ref b :: argsL).toArray X₁ hg hsize hdg hW (X₁.named hnamed) (hpre vm₁ X₁.warmed) with ⟨v, B, X', hpost, hsteps⟩ | ⟨q, B, X', hpost, hsteps⟩
  · exact Or.inl ⟨v, vm₁, B, X₁.warmed, X', hpost, fun target h => hstep₁ _ (by rw [doInvoke_state]; exact hsteps.trans h)⟩
  · exact Or.inr ⟨q, vm₁, B, X₁.warmed, X', hpost, hstep₁ _ (by rw [doInvoke_state]; exact hsteps)⟩
theorem vx_runSU {y : MethodName} {bytes cc : ByteArray} {maxL nL mc ms n index : Nat} {ret : Option FieldType} {ws : List Cond} {rm : Room} {Pc : Array Value → State → Prop} {Qc : Array Value → State → Outcome → State → Prop} {XC : String → State → State → Prop} {free : Addr → Prop} {Ts : List Cond} {own C : String} {cC : ClassId} {b : Addr} {As rest : List Value} {g : JFrame}
    (hat : ClassAt s C cC) (S : CallFix p m c cc nL s args Ts own) (hM : vx_Met l y ws rm Pc Qc XC mc ms free) (cw : va_CS R s args own index y bytes maxL ret ws rm mc ms n) (hp : PreV s H C b Pc As)
    (hg : g.method = m) (hn : As.length = n) (hsize : g.locals.size = nL) (hstack : g.stack = As.reverse ++ .ref b :: rest) (hW : 2 * g.monitorRoom + (rest.map fun v => v.category).sum ≤ 8) (hdg : decode cc g.pc = .ok (.invokespecial index, 3)) (hf : cells + mc ≤ R.cells ∧ slots + ms ≤ R.slots) :
    vx_Run p l e R s m args below meth c H locs cells slots mc ms g rest (Qc (Value.ref b :: As).toArray) XC free := by
  obtain ⟨⟨hrc, hrs, hfr, hlo, hws, hcw⟩, hl1, hl2, hl3, hl4, hini, hcode, hno, hlen⟩ := cw
  have hK : vx_Back l R p e below s args y 3 8 (PreOf R mc ms Pc) (PostOf Qc mc ms free) (vx_Post XC mc ms free) := vx_back (bytes := bytes) (maxL := maxL) (ret := ret) hM hp.1 hrc hrs hfr hlo hws hcw (fun a' U hW => word_at hW (Or.inl (by first | rfl | simp [Cond.onTables, Cond.keeps, Cond.steady])) hini)
  obtain ⟨hx, hb, hml, ho, -⟩ := S
  obtain ⟨-, ⟨cellB, hcB, hoB, hclB⟩, hPc⟩ := hp
  obtain ⟨hfc, kB, hkB, -⟩ := hat
  cases hfc.symm.trans hclB
  intro T hT X
  rcases vx_callSU X hx (bytes := bytes) (maxL := maxL) (ret := ret) ho hl1 hl2 hl3 hl4 hcode hno hK (by rw [hT]; exact hcB) hoB hkB hg (hsize.trans hml.symm) (argsL := As) (rest := rest) (fun sig h => hn.trans (hlen sig h)) hstack hW (by rw [hb]; exact hdg)
    (fun vm₁ hW₁ => ⟨hf.1, hf.2, hPc (T.setVm vm₁) hT hW₁⟩) with ⟨v, vm₁, ⟨U', l2, c2, s2⟩, hW₁, X', ⟨g', mk, t, L, e1, e2, hq, h1, hL, h2, h3⟩, st⟩ | ⟨q, vm₁, ⟨U', l2, c2, s2⟩, hW₁, X', ⟨g', mk, t, L, E, ce, e1, e2, hq, hce, hcv, hcl, h1, hL, h2, h3⟩, st⟩
  · dsimp only [Pt.U, Pt.locs, Pt.cells, Pt.slots] at X' e1 e2 h1 h2 h3 st
    subst h1; subst h2; subst h3
    exact Or.inl ⟨v, (T.setVm vm₁).calling g' mk (Value.ref b :: As).toArray, t, U', L, hT, X', hL, e1, e2, hq, st⟩
  · dsimp only [Pt.U, Pt.locs, Pt.cells, Pt.slots] at X' e1 e2 h1 h2 h3 st hcl
    subst h1; subst h2; subst h3
    exact Or.inr ⟨q, (T.setVm vm₁).calling g' mk (Value.ref b :: As).toArray, t, U', L, E, ce, hT, X', hL, e1, e2, hq, hce, hcv, vx_cls hW₁ hcl, st⟩
end
/-! ===== END ===== -/
/-! CALLS of methods of a class above: by the receiver, and super.m(..) -/
section XRD
variable {G : xx_G} {l : Launch} {M : xx_M} {fr lo mc ms : Nat} {Post : xx_Q} {pc : Nat} {L : List (Nat × Value)} {S : List Value} {A A' : xx_H} {n k j i q s e t d : Nat}
/-- a StringBuilder's method that is declared above -/
theorem J_callVU {x y : MethodName} {M' Mx : xx_M} {na idx fr' lo' mc' ms' h : Nat} {fs As : List Value} {Post' : xx_Q} (hd : decode M.2.2.1 pc = .ok (.invokevirtual idx, 3)) (hl : Cond.methodLink M.1 idx x ∈ xx_T) (hsame : Cond.sameMethod x.cls x.cls x.name x.desc ∈ xx_T) (hx : xx_Cal x Mx na) (hxh : Mx.2.2.2.2.2 = []) (hxi : Cond.instanceMethod x ∈ xx_T) (hxy : x.desc = y.desc) (hc : xx_Cal y M' na) (hi : Cond.instanceMethod y ∈ xx_T) (hs : Cond.selects RJ4 x y ∈ xx_T) (hA : A h = some (.inr (9, fs))) (hh : M'.2.2.2.2.2 = [])
    (hn : As.length = na) (hS : (S.map fun v => v.category).sum ≤ 8) (hR : fr' + 1 ≤ fr ∧ 8 + (M'.2.2.2.1 + 11) + lo' ≤ lo) (hf : k + mc' ≤ mc ∧ j + ms' ≤ ms) (hC : xx_C G l y M' fr' lo' mc' ms' (.ref h :: As) A n Post')
    (kx : ∀ E A' n', n ≤ n' → Post' (.inr E) A' n' → xx_JX G l M fr lo mc ms Post pc L E A' n' (k + mc') (j + ms'))
    (kk : ∀ v A' n', n ≤ n' → Post' (.inl v) A' n' → xx_J G l M fr lo mc ms Post (pc + 3) L (v.toList ++ S) A' n' (k + mc') (j + ms')) : xx_J G l M fr lo mc ms Post pc L (As.reverse ++ .ref h :: S) A n k j := by
  intro p e s m args below meth c ad0 n0 F ad H locs ls a
  have hcode : xx_code y M' = Cond.code y M'.2.2.1 M'.2.2.2.1 M'.2.2.2.2.1 := by unfold xx_code; rw [hh]
  have hcodx : xx_code x Mx = Cond.code x Mx.2.2.1 Mx.2.2.2.1 Mx.2.2.2.2.1 := by unfold xx_code; rw [hxh]
  obtain ⟨c1, c2, c3, c4, c5⟩ := hc
  obtain ⟨x1, x2, x3, x4, x5⟩ := hx
  have aS : xx_at G ad0 n0 M s L S A n ad H locs ls := ⟨a.1, a.2.1, a.2.2.1, a.2.2.2.1, a.2.2.2.2.1, fun v hv => a.2.2.2.2.2.1 v (List.mem_append_right _ (List.mem_cons_of_mem _ hv)), a.2.2.2.2.2.2⟩
  have hws := xx_wst2 (M := M') F.2.2.2.2.2.2.2.1 c1
  have hc9 : Cond.code y M'.2.2.1 M'.2.2.2.1 M'.2.2.2.2.1 ∈ xx_code y M' :: xx_T := by rw [hcode]; exact List.mem_cons_self
  rw [hcode] at c1
  rw [hcodx] at x1
  rw [xx_rev]
  have T8 := F.2.2.2.2.2.2.2.1
  have hr := vx_runU (p := p) (l := l) (e := e) (R := { frames := fr, cells := mc, slots := ms, locals := lo }) (below := below) (meth := meth) (H := H) (locs := locs) (cells := k) (slots := j) (C := RJ4) (owner := x.cls) (b := ad h) (As := As.map (xx_v ad)) (rest := S.map (xx_v ad)) (g := F0 m pc ls ((As.map (xx_v ad)).reverse ++ .ref (ad h) :: S.map (xx_v ad))) (index := idx) (x := x) (bytes := M'.2.2.1) (maxL := M'.2.2.2.1) (ret := M'.2.2.2.2.1) (n := na)
    ⟨F.1, F.2.1, F.2.2.1, F.2.2.2.2.2.2.1, F.2.2.2.2.2.2.2.1⟩ (hC ad)
    ⟨⟨rfl, rfl, hR.1, hR.2, hws, hc9⟩, T8 _ c1, T8 _ c2, ⟨x3, x4⟩, fun sig hsig => by rw [hsig] at x5; exact (Option.some.inj x5).symm, T8 _ hl, T8 _ hsame, va_Decl.of (T8 _ hxi) (T8 _ x1), T8 _ hs, T8 _ hi⟩
    ⟨xx_Pc.blind, (by
      obtain ⟨cellB, z1, z2, z3⟩ := xx_recv (G := G) (n := n) (y := ⟨RJ4, "", ""⟩) hA (T := TJ4) (N := 4) rfl s H ad locs a.2.2.1 F.2.2.2.2.2.2.2.2.2.2.1 a.2.2.2.1
      exact ⟨cellB, z1, z2, z3⟩), xx_pre F a (vs := .ref h :: As) (fun v hv => a.2.2.2.2.2.1 v (by
      rcases List.mem_cons.mp hv with e | hv
      · rw [e]; exact List.mem_append_right _ List.mem_cons_self
      · exact List.mem_append_left _ (List.mem_reverse.mpr hv)))⟩
    rfl (by rw [List.length_map]; exact hn) a.2.2.2.2.1.1 rfl (lv_room (xx_catS hS)) hd hf
  exact xx_run F aS hr kk kx
/-- super.m(..) in StringBuilder -/
theorem J_callSU {y : MethodName} {M' : xx_M} {na idx fr' lo' mc' ms' h : Nat} {fs As : List Value} {Post' : xx_Q} (hM : M.1 = RJ4) (hd : decode M.2.2.1 pc = .ok (.invokespecial idx, 3)) (hl : Cond.methodLink M.1 idx y ∈ xx_T) (hsame : Cond.sameMethod y.cls y.cls y.name y.desc ∈ xx_T) (hsup : Cond.superclass RJ4 y.cls ∈ xx_T) (hc : xx_Cal y M' na) (hno : y.name ≠ "<init>") (hi : Cond.instanceMethod y ∈ xx_T) (hA : A h = some (.inr (9, fs))) (hh : M'.2.2.2.2.2 = [])
    (hn : As.length = na) (hS : (S.map fun v => v.category).sum ≤ 8) (hR : fr' + 1 ≤ fr ∧ 8 + (M'.2.2.2.1 + 11) + lo' ≤ lo) (hf : k + mc' ≤ mc ∧ j + ms' ≤ ms) (hC : xx_C G l y M' fr' lo' mc' ms' (.ref h :: As) A n Post')
    (kx : ∀ E A' n', n ≤ n' → Post' (.inr E) A' n' → xx_JX G l M fr lo mc ms Post pc L E A' n' (k + mc') (j + ms'))
    (kk : ∀ v A' n', n ≤ n' → Post' (.inl v) A' n' → xx_J G l M fr lo mc ms Post (pc + 3) L (v.toList ++ S) A' n' (k + mc') (j + ms')) : xx_J G l M fr lo mc ms Post pc L (As.reverse ++ .ref h :: S) A n k j := by
  intro p e s m args below meth c ad0 n0 F ad H locs ls a
  have hcode : xx_code y M' = Cond.code y M'.2.2.1 M'.2.2.2.1 M'.2.2.2.2.1 := by unfold xx_code; rw [hh]
  obtain ⟨c1, c2, c3, c4, c5⟩ := hc
  have aS : xx_at G ad0 n0 M s L S A n ad H locs ls := ⟨a.1, a.2.1, a.2.2.1, a.2.2.2.1, a.2.2.2.2.1, fun v hv => a.2.2.2.2.2.1 v (List.mem_append_right _ (List.mem_cons_of_mem _ hv)), a.2.2.2.2.2.2⟩
  have hws := xx_wst2 (M := M') F.2.2.2.2.2.2.2.1 c1
  have hc9 : Cond.code y M'.2.2.1 M'.2.2.2.1 M'.2.2.2.2.1 ∈ xx_code y M' :: xx_T := by rw [hcode]; exact List.mem_cons_self
  rw [hcode] at c1
  rw [xx_rev]
  have T8 := F.2.2.2.2.2.2.2.1
  have hK := F.2.2.2.2.2.2.2.2.2.2.1
  have hown := F.2.2.2.2.2.2.1
  have hat := (hK.1.1 9 _ rfl).2
  have hr := vx_runSU (p := p) (l := l) (e := e) (R := { frames := fr, cells := mc, slots := ms, locals := lo }) (below := below) (meth := meth) (H := H) (locs := locs) (cells := k) (slots := j) (C := RJ4) (b := ad h) (As := As.map (xx_v ad)) (rest := S.map (xx_v ad)) (g := F0 m pc ls ((As.map (xx_v ad)).reverse ++ .ref (ad h) :: S.map (xx_v ad))) (index := idx) (bytes := M'.2.2.1) (maxL := M'.2.2.2.1) (ret := M'.2.2.2.2.1) (n := na)
    hat ⟨F.1, F.2.1, F.2.2.1, hown, F.2.2.2.2.2.2.2.1⟩ (hC ad)
    ⟨⟨rfl, rfl, hR.1, hR.2, hws, hc9⟩, T8 _ hl, T8 _ hsame, by rw [hM]; exact T8 _ hsup, T8 _ hi, T8 _ c2, T8 _ c1, hno, fun sig hsig => by rw [hsig] at c5; exact (Option.some.inj c5).symm⟩
    ⟨xx_Pc.blind, (by
      obtain ⟨cellB, z1, z2, z3⟩ := xx_recv (G := G) (n := n) (y := ⟨RJ4, "", ""⟩) hA (T := TJ4) (N := 4) rfl s H ad locs a.2.2.1 F.2.2.2.2.2.2.2.2.2.2.1 a.2.2.2.1
      exact ⟨cellB, z1, z2, z3⟩), xx_pre F a (vs := .ref h :: As) (fun v hv => a.2.2.2.2.2.1 v (by
      rcases List.mem_cons.mp hv with e | hv
      · rw [e]; exact List.mem_append_right _ List.mem_cons_self
      · exact List.mem_append_left _ (List.mem_reverse.mpr hv)))⟩
    rfl (by rw [List.length_map]; exact hn) a.2.2.2.2.1.1 rfl (lv_room (xx_catS hS)) hd hf
  exact xx_run F aS hr kk kx
/-- a checkcast of a row of bytes -/
theorem J_castB {idx h len : Nat} {f : Nat → Int32} (hd : decode M.2.2.1 pc = .ok (.checkcast idx, 3)) (hl : Cond.classLink M.1 idx "[B" ∈ xx_T) (hA : A h = some (.inl (1, len, .inl f))) (kk : xx_J G l M fr lo mc ms Post (pc + 3) L (.ref h :: S) A n k j) : xx_J G l M fr lo mc ms Post pc L (.ref h :: S) A n k j := by
  intro p e s m args below meth c ad0 n0 F ad H locs ls ⟨a1, a2, a3, a4, a5, a6, a7⟩
  have hK := F.2.2.2.2.2.2.2.2.2.2.1
  have hnm : s.vm.findClass ("[" ++ FieldType.byte.toString) = some (G.2.1 1) := (hK.1.2 1 _ rfl).2
  exact va_castA (nm := "[B") F.1 F.2.1 F.2.2.2.2.2.2.1 (F.2.2.2.2.2.2.2.1 _ hl) (a3.at hA) 0 rfl hnm hd (kk p e s m args below meth c ad0 n0 F ad H locs ls ⟨a1, a2, a3, a4, a5, a6, a7⟩)
/-- a clone of a row of bytes -/
theorem J_cloneB {idx h len : Nat} {f : Nat → Int32} (hd : decode M.2.2.1 pc = .ok (.invokevirtual idx, 3)) (hl : Cond.methodLink M.1 idx ⟨"[B", "clone", "()Ljava/lang/Object;"⟩ ∈ xx_T) (w1 : Cond.sameMethod "[B" "java/lang/Object" "clone" "()Ljava/lang/Object;" ∈ xx_T) (w2 : Cond.native ⟨"java/lang/Object", "clone", "()Ljava/lang/Object;"⟩ ∈ xx_T) (w3 : Cond.instanceMethod ⟨"java/lang/Object", "clone", "()Ljava/lang/Object;"⟩ ∈ xx_T) (w4 : Cond.selects "[B" ⟨"[B", "clone", "()Ljava/lang/Object;"⟩ ⟨"java/lang/Object", "clone", "()Ljava/lang/Object;"⟩ ∈ xx_T) (w5 : Cond.castable "[B" "java/lang/Cloneable" ∈ xx_N)
    (hA : A h = some (.inl (1, len, .inl f))) (hfit : ∀ i, fits .byte (.int (f i)) = true) (hR : 1 ≤ fr ∧ (S.map fun v => v.category).sum + 14 ≤ lo) (hk : k + 1 ≤ mc) (hj : j + len ≤ ms) (kk : xx_J G l M fr lo mc ms Post (pc + 3) L (.ref n :: S) (xx_up A n (.inl (1, len, .inl f))) (n + 1) (k + 1) (j + len)) : xx_J G l M fr lo mc ms Post pc L (.ref h :: S) A n k j := by
  intro p e s m args below meth c ad0 n0 F ad H locs ls ⟨a1, a2, a3, a4, a5, a6, a7⟩
  obtain ⟨b1, b2, b3, b4, b5⟩ := a3.2.2.1 _ _ hA
  have hK := F.2.2.2.2.2.2.2.2.2.2.1
  have T8 := F.2.2.2.2.2.2.2.1
  have hnm : s.vm.findClass "[B" = some (G.2.1 1) := (hK.1.2 1 _ rfl).2
  have hcell : H[ad h]? = some (vp_cell (G.2.1 1) (len, .inl f)) := b5
  have hsz : (vp_cell (G.2.1 1) (len, (.inl f : (Nat → Int32) ⊕ _))).slots.size = len := arrV_size _ _ _
  have h9 : ((S.map (xx_v ad)).map fun v => v.category) = S.map fun v => v.category := by
    rw [List.map_map]
    exact List.map_congr_left fun v _ => xx_cat ad v
  obtain ⟨c0, t0', f1, f2, f3⟩ := Cond.castable_spec (va_Nw.use (A := args) rfl (hK.2.1 _ w5))
  cases hnm.symm.trans f1
  intro T hT X
  have hcellT : T.heap[ad h]? = some (vp_cell (G.2.1 1) (len, .inl f)) := by rw [hT]; exact hcell
  obtain ⟨-, kA, hkA, comp, hkind⟩ := State.isArrayOf_alike X.warmed.alike ((hK.1.2 1 _ rfl).1 0 (fun _ => .null))
  obtain ⟨-, kS, hkS, compS, hkindS⟩ := (hK.1.2 1 _ rfl).1 0 (fun _ => .null)
  obtain ⟨vm', X', st⟩ := X.cloneArray F.1 F.2.2.2.2.2.2.1 (T8 _ hl) (T8 _ w1) (T8 _ w2) (T8 _ w3) (T8 _ w4) (a := ad h) (cell := vp_cell (G.2.1 1) (len, .inl f)) hcellT (fun k h => by cases h) (fun h => by cases h) hnm f2 f3
    (fun i v hv => by
      have hk' : T.vm.classes[G.2.1 1]? = some kA := hkA
      have hlt : i < len := by
        have := (Array.getElem?_eq_some_iff.mp hv).1
        rw [hsz] at this
        exact this
      have hv2 : (arrV (G.2.1 1) len (fun j => .int (f j))).slots[i]? = some v := hv
      rw [arrV_read _ _ hlt] at hv2
      have ev : v = .int (f i) := (Option.some.inj hv2).symm
      have hb : fits .byte v = true := by rw [ev]; exact hfit i
      have hcl : (vp_cell (G.2.1 1) (len, .inl f)).cls = G.2.1 1 := rfl
      have hvm : (vp_cell (G.2.1 1) (len, .inl f)).vm = .none := rfl
      simpa [State.fitsSlot, State.slotType?, hcl, hvm, hk', hkind] using hb)
    (g := F0 m pc ls (.ref (ad h) :: S.map (xx_v ad))) rfl (a5.1.trans F.2.2.1.symm) rfl (by rw [F.2.1]; exact hd) hR.1 (by show 2 * 0 + _ + 14 ≤ lo; rw [h9]; have := hR.2; omega) hk (by rw [hsz]; exact hj) (hloader := Vm.clonesLoader_of_array hkS hkindS)
  rw [hsz] at X'
  have hcellE : ({ cls := (vp_cell (G.2.1 1) (len, .inl f)).cls, slots := (vp_cell (G.2.1 1) (len, .inl f)).slots } : Cell) = vp_cell (G.2.1 1) (len, .inl f) := rfl
  rw [hcellE] at X' st
  generalize hH1 : H.push (vp_cell (G.2.1 1) (len, .inl f)) = H1
  have z1 : H1.size = H.size + 1 := by rw [← hH1, Array.size_push]
  have e1 : H1[H.size]? = some (vp_cell (G.2.1 1) (len, .inl f)) := by rw [← hH1, Array.getElem?_push_size]
  have o1 : ∀ q : Nat, q < H.size → H1[q]? = H[q]? := fun q hq => by rw [← hH1, Array.getElem?_push, if_neg (Nat.ne_of_lt hq)]
  have ext : ∀ q, q < n → va_up ad n H.size q = ad q := fun q hq => by simp [va_up, Nat.ne_of_lt hq]
  have hsz2 : G.2.2.1 ≤ H.size := Nat.le_trans F.2.2.2.2.2.2.2.2.2.2.2 a4.1
  have K := kk p e s m args below meth c ad0 n0 F (va_up ad n H.size) H1 locs ls ⟨by omega, fun q hq => by rw [ext q (by omega)]; exact a2 q hq, a3.push (a3.none (Nat.le_refl _)) hsz2 (Nat.le_refl _) trivial e1 o1, ⟨Nat.le_trans a4.1 (by omega), fun x h1 h2 => (o1 x (Nat.lt_of_lt_of_le h1 a4.1)).trans (a4.2.1 x h1 h2), a4.2.2⟩, ?_, xx_c (Nat.lt_succ_self n) (fun v hv => xx_vw_le (Nat.le_succ n) (xx_t a6 v hv)), fun q hq => xx_vw_le (Nat.le_succ n) (a7 q hq)⟩
  · rw [List.map_cons, xx_map_ext ext (xx_t a6)] at K
    simp only [xx_v, va_up, if_true] at K
    obtain ⟨t, b1, b2⟩ := K ((T.setVm vm').pushCell (vp_cell (G.2.1 1) (len, .inl f))) (by rw [← hH1, ← hT]; rfl) X'
    refine ⟨t, st t ?_, b2⟩
    rw [hT]
    exact b1
  · have : L.map (fun q => (q.1, xx_v (va_up ad n H.size) q.2)) = L.map (fun q => (q.1, xx_v ad q.2)) := List.map_congr_left fun q hq => by rw [xx_v_ext ext (a7 q hq)]
    rw [this]
    exact a5
end XRD
