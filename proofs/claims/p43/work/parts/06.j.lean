/-! WHAT STANDS AT THE START, CONTRACTS, AND THE JUDGEMENT J -/
section XXB
/-- the static fields that are read: declaring class, name, descriptor, what it holds -/
def xx_sg : List String := ["WRESTLER", "STRENGTH", "POINTS", "DRAW", "REST", "RULE", "RED", "BLUE", "WINS", "WHEN", "ROUND", "WON", "MET", "BELTS", "FLOATS", "NOT", "AND", "OR", "MIN", "MAX", "OPEN", "CLOSE", "SQUARE_OPEN", "SQUARE_CLOSE", "SEMICOLON", "COMMA", "PLUS", "MINUS", "TIMES", "OVER", "LESS", "MORE", "EQUAL", "AT_MOST", "AT_LEAST", "NAME", "NUMBER", "END", "UNKNOWN"]
def xx_dS : String := "LBeltRounds$Sign;"
def xx_texts : List String := ["wrestler", "strength", "points", "draw", "rest", "rule", "red", "blue", "wins", "when", "round", "won", "met", "belts", "floats", "not", "and", "or", "min", "max", "(", ")", "[", "]", ";", ",", "+", "-", "*", "/", "<", ">", "=", "<=", ">=", "", "", "", ""]
/-- the law's literals: class, entry, text -/
def xx_lits : List (String × Nat × String) := [("BeltRoundsLaw", 73, "points"), ("BeltRoundsLaw", 85, " "), ("BeltRoundsLaw", 90, ";"), ("BeltRoundsLaw", 95, "wrestler w"), ("BeltRoundsLaw", 97, " strength "), ("BeltRoundsLaw", 110, "\nrule "), ("BeltRoundsLaw", 112, "red wins"), ("BeltRoundsLaw", 114, "draw"), ("BeltRoundsLaw", 116, "blue wins"), ("BeltRoundsLaw", 118, ""), ("BeltRoundsLaw", 121, " when "), ("BeltRoundsLaw$Tree", 41, ""), ("BeltRoundsLaw$Tree", 43, "round"), ("BeltRoundsLaw$Tree", 45, "points"), ("BeltRoundsLaw$Tree", 47, "strength"), ("BeltRoundsLaw$Tree", 49, "won"), ("BeltRoundsLaw$Tree", 51, "belts"), ("BeltRoundsLaw$Tree", 53, "floats"), ("BeltRoundsLaw$Tree", 55, "rest"), ("BeltRoundsLaw$Tree", 57, "+"), ("BeltRoundsLaw$Tree", 59, "-"), ("BeltRoundsLaw$Tree", 61, "*"), ("BeltRoundsLaw$Tree", 63, "/"), ("BeltRoundsLaw$Tree", 65, "min("), ("BeltRoundsLaw$Tree", 67, "max("), ("BeltRoundsLaw$Tree", 69, "<"), ("BeltRoundsLaw$Tree", 71, ">"), ("BeltRoundsLaw$Tree", 73, "="), ("BeltRoundsLaw$Tree", 75, "<="), ("BeltRoundsLaw$Tree", 77, ">="), ("BeltRoundsLaw$Tree", 93, "round "), ("BeltRoundsLaw$Tree", 95, " red "), ("BeltRoundsLaw$Tree", 97, " blue "), ("BeltRoundsLaw$Tree", 99, "- ("), ("BeltRoundsLaw$Tree", 104, ")"), ("BeltRoundsLaw$Tree", 106, "("), ("BeltRoundsLaw$Tree", 108, ","), ("BeltRoundsLaw$Tree", 110, "met "), ("BeltRoundsLaw$Tree", 112, "not["), ("BeltRoundsLaw$Tree", 114, "]"), ("BeltRoundsLaw$Tree", 116, "["), ("BeltRoundsLaw$Tree", 118, "and"), ("BeltRoundsLaw$Tree", 120, "or")]
/-- the texts as bytes: those of the signs at 20 .. 58, those of the law's literals at 0 .. 19 (the first twenty) and from 59 on -/
def xx_tx : List (List Int32) := (((xx_lits.take 20).map (fun q => q.2.2)) ++ xx_texts ++ ((xx_lits.drop 20).map (fun q => q.2.2))).map (fun t => t.toList.map (fun c => Int32.ofNat c.toNat))
/-- the text number i as a thing, and its bytes -/
abbrev th (i : Nat) : Nat := if i < 59 then 41 + i else 141 + i
abbrev bh (i : Nat) : Nat := if i < 59 then 100 + i else 241 + i
def xx_dg (ten : Bool) : Nat → Value := fun j => .int (Int32.ofNat (48 + (if ten then j / 10 else j % 10)))
/-- a static field: C, n, d, v -/
def xx_st : List (String × String × String × Value) := (List.range 39).map (fun i => ("BeltRounds$Sign", xx_sg.getD i "", xx_dS, Value.ref i)) ++ [("BeltRounds$Sign", "ALL", "[LBeltRounds$Sign;", .ref 39), ("java/lang/Integer", "DigitOnes", "[B", .ref 161), ("java/lang/Integer", "DigitTens", "[B", .ref 162), ("java/lang/String", "COMPACT_STRINGS", "Z", .int 1)]
/-- a field of a thing: its number, declaring class, name, descriptor, what it holds -/
def xx_sf : List (Nat × String × String × String × Value) := (List.range 39).map (fun i => (i, "BeltRounds$Sign", "text", "Ljava/lang/String;", Value.ref (61 + i))) ++ ((List.range 82).map (fun i => (th i, "java/lang/String", "value", "[B", Value.ref (bh i))) ++ (List.range 82).map (fun i => (th i, "java/lang/String", "coder", "B", Value.int 0)))
/-- an object: its number and class -/
def xx_so : List (Nat × String) := (List.range 39).map (fun i => (i, "BeltRounds$Sign")) ++ (List.range 82).map (fun i => (th i, "java/lang/String"))
/-- a row: its number, type, length, what it holds -/
def xx_sa : List (Nat × FieldType × Nat × (Nat → Value)) := (39, .object "BeltRounds$Sign", 39, fun j => .ref j) :: (161, .byte, 100, xx_dg false) :: (162, .byte, 100, xx_dg true) :: (List.range 82).map (fun i => (bh i, .byte, (xx_tx.getD i []).length, fun j => .int ((xx_tx.getD i []).getD j 0)))
/-- the text number of a literal -/
def xx_ln (k : Nat) : Nat := if k < 20 then k else k + 39
/-- the texts of the exceptions: class, entry, text -/
def xx_sx : List (String × Nat × String) := [(RX6, 53, "the tape would be too long"), (RX6, 64, "the tape has not so many bytes"), (RX6, 132, "no such rank"), (RX6, 153, "the bout has no outcome yet"), (RX6, 162, "this one has no bout in the latest round"), (RX6, 167, "nobody rests"), (RX6, 180, "no such outcome"), (RX6, 182, "the bout has an outcome"), (RX6, 188, "no bout is without an outcome"), (RX6, 199, "this one would have no bout in the next round"), (RX6, 207, "there are no wrestlers"), (RX6, 237, "no such wrestler"), (RX6, 242, "no such bout in the latest round"), (RX6, 248, "no round can be paired now"), (RX6, 250, "rounds is not 1 to 10")]
def xx_A (G : xx_G) : Nat → Prop := fun q => G.2.2.1 ≤ q
def xx_S (G : xx_G) (U : State) (H : Heap) : Prop :=
  (∀ q ∈ xx_st, va_Z q.1 q.2.1 q.2.2.1 (xx_v G.2.2.2 q.2.2.2) (xx_A G) U H) ∧
  (∀ q ∈ xx_sf, va_OF q.2.1 q.2.2.1 q.2.2.2.1 (xx_v G.2.2.2 q.2.2.2.2) (G.2.2.2 q.1) (xx_A G) U H) ∧
  (∀ q ∈ xx_so, va_O q.2 (G.2.2.2 q.1) (xx_A G) U H) ∧
  (∀ q ∈ xx_sa, va_T q.2.1 (G.2.2.2 q.1) q.2.2.1 (fun j => xx_v G.2.2.2 (q.2.2.2 j)) (xx_A G) U H) ∧
  (∀ i j, i < 39 → j < 39 → G.2.2.2 i = G.2.2.2 j → i = j) ∧
  (va_Z "jdk/internal/util/Preconditions" "SIOOBE_FORMATTER" "Ljava/util/function/BiFunction;" .null (xx_A G) U H ∨ va_Z "jdk/internal/util/Preconditions" "SIOOBE_FORMATTER" "Ljava/util/function/BiFunction;" (.ref (G.2.2.2 159)) (xx_A G) U H) ∧
  vx_Zq Bundle.tN "UNASSIGNED_STACK" Bundle.steD (xx_A G) U H ∧ vx_Zq Bundle.tN "SUPPRESSED_SENTINEL" Bundle.listD (xx_A G) U H ∧
  (∀ q ∈ xx_sx, ∃ sa, vk_R q.1 q.2.1 q.2.2 sa U) ∧
  (∀ k q, xx_lits[k]? = some q → vk_R q.1 q.2.1 q.2.2 (G.2.2.2 (th (xx_ln k))) U)
theorem xx_S.go {G : xx_G} {u U : State} {H H1 : Heap} (hW : u.WarmedH U.vm) (hq : ∀ a : Nat, a < H.size → ¬ xx_A G a → H1[a]? = H[a]?) (h : xx_S G u H) : xx_S G U H1 := by
  obtain ⟨h1, h2, h3, h4, h5, h6, h7, h8, h9, h10⟩ := h
  have hvm := hW.alike
  refine ⟨fun q z => (va_Z.moved hvm (h1 q z)).kept hq, fun q z => (va_OF.moved hvm (h2 q z)).kept hq, fun q z => (va_O.moved hvm (h3 q z)).kept hq, fun q z => (va_T.moved hvm (h4 q z)).kept hq, h5, ?_, (vx_Zq.moved hvm h7).kept hq, (vx_Zq.moved hvm h8).kept hq, fun q z => ?_, fun k q z => vk_R.warm hW (h10 k q z)⟩
  · rcases h6 with h | h
    · exact Or.inl ((va_Z.moved hvm h).kept hq)
    · exact Or.inr ((va_Z.moved hvm h).kept hq)
  · obtain ⟨sa, h⟩ := h9 q z
    exact ⟨sa, vk_R.warm hW h⟩
def xx_tys (dA : Nat → ClassId) : List (ClassId × FieldType) := [(dA 0, .int), (dA 1, .byte), (dA 2, .boolean), (dA 3, .array .int), (dA 4, .object "BeltRounds$Sign"), (dA 5, .object "BeltRoundsLaw$Tree"), (dA 6, .object "java/lang/String")]
/-- int[][] can be made -/
def xx_AOA (U : State) : Prop := (Cond.arrayOver (.array .int)).before #[] U = true
theorem xx_AOA.moved {u U : State} (hvm : u.vm.Alike U.vm) (h : xx_AOA u) : xx_AOA U := by
  obtain ⟨comp, c, k, h1, h2, h3, h4, h5⟩ := arrayOverA_spec h
  obtain ⟨k', hk', he⟩ := hvm.2.2 _ _ h3
  have hi : (U.vm.classes.findIdx? fun (x : Class) => match x.kind with | .array component _ => component == comp | _ => false) = some c := by
    rw [hvm.findIdx?_eq _ (fun _ => rfl)]
    exact h2
  have hkind : k'.kind = .array comp (.array .int) := by rw [he]; exact h4
  have f1 : U.vm.findClass (FieldType.array .int).toString = some comp := by rw [hvm.findClass]; exact h1
  have f2 : U.vm.findClass ("[" ++ (FieldType.array .int).toString) = some c := by rw [hvm.findClass]; exact h5
  unfold xx_AOA Cond.before Cond.holds
  simp only [Cond.value]
  rw [f1, Option.bind_some]
  refine (congrArg (fun o : Option Nat => (o.bind (fun c => (U.vm.classes[c]?).map fun (k : Class) => match k.kind with | .array _ ty => decide (ty = FieldType.array .int) && decide (U.vm.findClass ("[" ++ (FieldType.array .int).toString) = some c) | _ => false) == some true)) hi).trans ?_
  simp [hk', hkind, f2]
/-- the script, as G keeps it: its place at 160, its length at 400, its ints behind -/
def xx_scr (G : xx_G) (j : Nat) : Int32 := Int32.ofNat (G.2.2.2 (401 + j))
def xx_K (G : xx_G) (U : State) (H : Heap) : Prop := va_K G.1 vwCl (xx_tys G.2.1) U ∧ (∀ w ∈ xx_N, va_Nw w U) ∧ (va_AO "BeltRounds$Sign" U ∧ (va_AO "BeltRoundsLaw$Tree" U ∧ va_AO "java/lang/String" U ∧ xx_AOA U) ∧ va_T .int (G.2.2.2 160) (G.2.2.2 400) (fun j => .int (xx_scr G j)) (xx_A G) U H) ∧ xx_S G U H
theorem xx_K.go {G : xx_G} {u U : State} {H H1 : Heap} (hW : u.WarmedH U.vm) (hq : ∀ a : Nat, a < H.size → ¬ xx_A G a → H1[a]? = H[a]?) (h : xx_K G u H) : xx_K G U H1 :=
  ⟨va_K.moved hW.alike h.1, fun w hw => xx_Nw (List.mem_filter.mp hw).2 hW (h.2.1 w hw), ⟨va_AO.moved hW.alike h.2.2.1.1, ⟨va_AO.moved hW.alike h.2.2.1.2.1.1, va_AO.moved hW.alike h.2.2.1.2.1.2.1, xx_AOA.moved hW.alike h.2.2.1.2.1.2.2⟩, (va_T.moved hW.alike h.2.2.1.2.2).kept hq⟩, h.2.2.2.go hW hq⟩
/-- a method: its class, name, body, locals, type, table -/
abbrev xx_M : Type := String × String × ByteArray × Nat × Option FieldType × List (Nat × Nat × Nat × Nat)
def xx_code (y : MethodName) (M : xx_M) : Cond := match M.2.2.2.2.2 with
  | [] => .code y M.2.2.1 M.2.2.2.1 M.2.2.2.2.1
  | hh => .codeWith y M.2.2.1 M.2.2.2.1 M.2.2.2.2.1 hh
def xx_F (G : xx_G) (l : Launch) (M : xx_M) (p : Program) (s : State) (m : MethodId) (args : Array Value) (meth : Method) (c : Code) : Prop :=
  p.tables.exec = Jvm.exec ∧ c.code = M.2.2.1 ∧ c.maxLocals = M.2.2.2.1 ∧ meth.sig.returnType = M.2.2.2.2.1 ∧ meth.locks = false ∧ meth.name = M.2.1 ∧ s.vm.findClass M.1 = some m.cls ∧ (∀ w ∈ xx_T, w.before args s = true) ∧ c.exceptionTable.toList = tableOf M.2.2.2.2.2 ∧ l.stackTraces = false ∧ xx_K G s s.heap ∧ G.2.2.1 ≤ s.heap.size
abbrev xx_R : Type := Option Value ⊕ String
abbrev xx_Q : Type := xx_R → xx_H → Nat → Prop
def xx_Qc (G : xx_G) (ad0 : Nat → Nat) (n0 : Nat) (Post : xx_Q) : Array Value → State → Outcome → State → Prop := fun _ st o t =>
  ∃ (v : Option Value) (ad' : Nat → Nat) (n' : Nat) (A' : xx_H), o = .returned (v.map (xx_v ad')) ∧ n0 ≤ n' ∧ (∀ h, h < n0 → ad' h = ad0 h) ∧ Post (.inl v) A' n' ∧ xx_P G ad' n' A' t.heap ∧ (∀ x, v = some x → xx_vw n' x) ∧ va_F (xx_A G) st t
def xx_Qx (G : xx_G) (ad0 : Nat → Nat) (n0 : Nat) (Post : xx_Q) : String → State → State → Prop := fun E st t =>
  ∃ (ad' : Nat → Nat) (n' : Nat) (A' : xx_H), n0 ≤ n' ∧ (∀ h, h < n0 → ad' h = ad0 h) ∧ Post (.inr E) A' n' ∧ xx_P G ad' n' A' t.heap ∧ va_F (xx_A G) st t
/-- what is held at a point of a method's body -/
def xx_at (G : xx_G) (ad0 : Nat → Nat) (n0 : Nat) (M : xx_M) (s : State) (L : List (Nat × Value)) (S : List Value) (A : xx_H) (n : Nat) (ad : Nat → Nat) (H : Heap) (locs : List Loc) (ls : Array Slot) : Prop :=
  n0 ≤ n ∧ (∀ h, h < n0 → ad h = ad0 h) ∧ xx_P G ad n A H ∧ va_S (xx_A G) s.heap H locs ∧ lv_has ls M.2.2.2.1 (L.map (fun q => (q.1, xx_v ad q.2))) ∧ (∀ v ∈ S, xx_vw n v) ∧ (∀ q ∈ L, xx_vw n q.2)
/-- from the point pc, with these locals, this stack and this heap, the method comes to an end with Post. fr, lo: frames and words left; mc, ms: cells and slots that the method may make, k, j: those made so far -/
def xx_J (G : xx_G) (l : Launch) (M : xx_M) (fr lo mc ms : Nat) (Post : xx_Q) (pc : Nat) (L : List (Nat × Value)) (S : List Value) (A : xx_H) (n k j : Nat) : Prop :=
  ∀ (p : Program) (e : Env) (s : State) (m : MethodId) (args : Array Value) (below : List Frame) (meth : Method) (c : Code) (ad0 : Nat → Nat) (n0 : Nat), xx_F G l M p s m args meth c →
    ∀ (ad : Nat → Nat) (H : Heap) (locs : List Loc) (ls : Array Slot), xx_at G ad0 n0 M s L S A n ad H locs ls →
      W p l e { frames := fr, cells := mc, slots := ms, locals := lo } s m args below meth c H locs k j (vx_MQ below (xx_Qc G ad0 n0 Post) (xx_Qx G ad0 n0 Post) args s mc ms (xx_A G)) (F0 m pc ls (S.map (xx_v ad)))
/-- the same, an exception of class E thrown over the point pc -/
def xx_JX (G : xx_G) (l : Launch) (M : xx_M) (fr lo mc ms : Nat) (Post : xx_Q) (pc : Nat) (L : List (Nat × Value)) (E : String) (A : xx_H) (n k j : Nat) : Prop :=
  ∀ (p : Program) (e : Env) (s : State) (m : MethodId) (args : Array Value) (below : List Frame) (meth : Method) (c : Code) (ad0 : Nat → Nat) (n0 : Nat), xx_F G l M p s m args meth c →
    ∀ (ad : Nat → Nat) (H : Heap) (locs : List Loc) (ls : Array Slot) (rest : List Value) (q : Addr) (ce : Cell), xx_at G ad0 n0 M s L [] A n ad H locs ls → H[q]? = some ce → ce.vm = .none → s.vm.findClass E = some ce.cls →
      vx_W p l e { frames := fr, cells := mc, slots := ms, locals := lo } s m args below meth c H locs k j (vx_MQ below (xx_Qc G ad0 n0 Post) (xx_Qx G ad0 n0 Post) args s mc ms (xx_A G)) (F0 m pc ls rest) q
/-- a method's contract: from these arguments and this heap it comes to an end with Post -/
def xx_Pc (G : xx_G) (ad : Nat → Nat) (n : Nat) (vs : List Value) (A : xx_H) : Array Value → State → Prop := va_Pc (vs.map (xx_v ad)) (fun U => xx_P G ad n A U.heap ∧ xx_K G U U.heap ∧ G.2.2.1 ≤ U.heap.size ∧ (∀ v ∈ vs, xx_vw n v))
def xx_C (G : xx_G) (l : Launch) (y : MethodName) (M : xx_M) (fr lo mc ms : Nat) (vs : List Value) (A : xx_H) (n : Nat) (Post : xx_Q) : Prop :=
  ∀ ad : Nat → Nat, vx_Met l y (xx_code y M :: xx_T) { frames := fr, cells := mc, slots := ms, locals := lo } (xx_Pc G ad n vs A) (xx_Qc G ad n Post) (xx_Qx G ad n Post) mc ms (xx_A G)
/-- .. of one that never throws -/
def xx_D (G : xx_G) (l : Launch) (y : MethodName) (M : xx_M) (fr lo mc ms : Nat) (vs : List Value) (A : xx_H) (n : Nat) (Post : xx_Q) : Prop :=
  ∀ ad : Nat → Nat, Met l y (xx_code y M :: xx_T) { frames := fr, cells := mc, slots := ms, locals := lo } (xx_Pc G ad n vs A) (xx_Qc G ad n Post) mc ms (xx_A G)
theorem xx_Pc.blind {G : xx_G} {ad : Nat → Nat} {n : Nat} {vs : List Value} {A : xx_H} : FrameBlind (xx_Pc G ad n vs A) := by
  intro a U g mk h
  obtain ⟨h1, h2, h3, h4⟩ := h
  exact ⟨h1, h2, xx_K.go (u := U) (U := U.calling g mk a) (State.WarmedH.refl U) (fun _ _ _ => rfl) h3, h4⟩
theorem W.mono {p : Program} {l : Launch} {e : Env} {R : Room} {s : State} {m : MethodId} {args : Array Value} {below : List Frame} {meth : Method} {c : Code} {H : Heap} {locs : List Loc} {cells slots : Nat} {Q Q' : State → Prop} {g : JFrame} (hQ : ∀ t, Q t → Q' t) (k : W p l e R s m args below meth c H locs cells slots Q g) : W p l e R s m args below meth c H locs cells slots Q' g := by
  intro T hT X
  obtain ⟨t, a, b⟩ := k T hT X
  exact ⟨t, a, hQ t b⟩
/-- the entry -/
theorem xx_J.entry {G : xx_G} {l : Launch} {M : xx_M} {fr lo mc ms : Nat} {Post : xx_Q} {vs : List Value} {A : xx_H} {n : Nat} (h : (lg_sl vs).length ≤ M.2.2.2.1) (J : xx_J G l M fr lo mc ms Post 0 (lv_args 0 vs) [] A n 0 0)
    {p : Program} {e : Env} {s : State} {m : MethodId} {below : List Frame} {meth : Method} {c : Code} {ad : Nat → Nat} (F : xx_F G l M p s m (vs.map (xx_v ad)).toArray meth c) (hP : xx_P G ad n A s.heap) (hw : ∀ v ∈ vs, xx_vw n v) :
    W p l e { frames := fr, cells := mc, slots := ms, locals := lo } s m (vs.map (xx_v ad)).toArray below meth c s.heap [] 0 0 (vx_MQ below (xx_Qc G ad n Post) (xx_Qx G ad n Post) (vs.map (xx_v ad)).toArray s mc ms (xx_A G)) (entryFrame m (vs.map (xx_v ad)).toArray M.2.2.2.1) := by
  have cat : ∀ v : Value, (xx_v ad v).category = v.category := fun v => by cases v <;> rfl
  have hlen : ∀ us : List Value, (lg_sl (us.map (xx_v ad))).length = (lg_sl us).length := by
    intro us
    induction us with
    | nil => rfl
    | cons u us ih =>
      have e1 : ∀ (x : Value) (xs : List Value), (lg_sl (x :: xs)).length = (if x.category = 2 then 2 else 1) + (lg_sl xs).length := by
        intro x xs
        by_cases hx : x.category = 2 <;> simp [lg_sl, List.flatMap_cons, hx] <;> omega
      rw [List.map_cons, e1, e1, cat, ih]
  have hargs : ∀ (us : List Value) (i : Nat), lv_args i (us.map (xx_v ad)) = (lv_args i us).map (fun q => (q.1, xx_v ad q.2)) := by
    intro us
    induction us with
    | nil => intro i; rfl
    | cons u us ih => intro i; simp [lv_args, ih, cat]
  have hin : ∀ (us : List Value) (i : Nat), (∀ v ∈ us, xx_vw n v) → ∀ q ∈ lv_args i us, xx_vw n q.2 := by
    intro us
    induction us with
    | nil => intro i _ q hq; cases hq
    | cons u us ih =>
      intro i hu q hq
      rcases List.mem_cons.mp hq with rfl | hq
      · exact hu _ List.mem_cons_self
      · exact ih _ (fun v hv => hu v (List.mem_cons_of_mem _ hv)) q hq
  have hl := lv_entry (vs.map (xx_v ad)) (n := M.2.2.2.1) (by rw [hlen]; exact h)
  rw [hargs] at hl
  rw [lg_entry_eq]
  exact J p e s m _ below meth c ad n F ad s.heap [] _ ⟨Nat.le_refl _, fun _ _ => rfl, hP, va_S.rf, hl, (fun _ hv => nomatch hv), hin vs 0 hw⟩
end XXB
