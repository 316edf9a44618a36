/-! ONE ROW AN INSTRUCTION (stack, locals, arithmetic, branches) -/
section XXC
variable {G : xx_G} {l : Launch} {M : xx_M} {fr lo mc ms : Nat} {Post : xx_Q} {pc : Nat} {L : List (Nat × Value)} {S : List Value} {A : xx_H} {n k j : Nat}
theorem xx_c {n : Nat} {u : Value} {S : List Value} (h : xx_vw n u) (hS : ∀ v ∈ S, xx_vw n v) : ∀ v ∈ u :: S, xx_vw n v := fun v hv => (List.mem_cons.mp hv).elim (fun e => by rw [e]; exact h) (hS v)
theorem xx_t {n : Nat} {u : Value} {S : List Value} (hS : ∀ v ∈ u :: S, xx_vw n v) : ∀ v ∈ S, xx_vw n v := fun v hv => hS v (List.mem_cons_of_mem _ hv)
theorem xx_ld {ls : Array Slot} {nL : Nat} {ad : Nat → Nat} {i : Nat} {v : Value} (h : lv_has ls nL (L.map (fun q => (q.1, xx_v ad q.2)))) (hl : L.find? (fun q => q.1 == i) = some (i, v)) : ls[i]? = some (.val (xx_v ad v)) :=
  h.2.2 (i, xx_v ad v) (List.mem_map.mpr ⟨(i, v), List.mem_of_find?_eq_some hl, rfl⟩)
theorem xx_ldw {n i : Nat} {v : Value} (h : ∀ q ∈ L, xx_vw n q.2) (hl : L.find? (fun q => q.1 == i) = some (i, v)) : xx_vw n v := h (i, v) (List.mem_of_find?_eq_some hl)
theorem xx_cat (ad : Nat → Nat) (v : Value) : (xx_v ad v).category = v.category := by cases v <;> rfl
theorem xx_fil {ad : Nat → Nat} {P : Nat → Bool} {P2 : Nat → Bool} (L : List (Nat × Value)) : (L.map (fun q => (q.1, xx_v ad q.2))).filter (fun q => P q.1 && !(P2 q.1 && q.2.category == 2)) = (L.filter (fun q => P q.1 && !(P2 q.1 && q.2.category == 2))).map (fun q => (q.1, xx_v ad q.2)) := by
  induction L with
  | nil => rfl
  | cons a L ih =>
    simp only [List.map_cons, List.filter_cons, xx_cat]
    split
    · rw [List.map_cons, ih]
    · exact ih
abbrev xx_f1 (i : Nat) (L : List (Nat × Value)) : List (Nat × Value) := L.filter (fun q => !(q.1 == i) && !(q.1 + 1 == i && q.2.category == 2))
abbrev xx_f2 (i : Nat) (L : List (Nat × Value)) : List (Nat × Value) := L.filter (fun q => !(q.1 == i) && (!(q.1 == i + 1) && !(q.1 + 1 == i && q.2.category == 2)))
theorem xx_fil2 {ad : Nat → Nat} (i : Nat) (L : List (Nat × Value)) : xx_f2 i (L.map (fun q => (q.1, xx_v ad q.2))) = (xx_f2 i L).map (fun q => (q.1, xx_v ad q.2)) := by
  induction L with
  | nil => rfl
  | cons a L ih =>
    simp only [xx_f2, List.map_cons, List.filter_cons, xx_cat] at ih ⊢
    split
    · rw [List.map_cons, ih]
    · exact ih
theorem xx_stl {ad : Nat → Nat} {i : Nat} {v : Value} {L' : List (Nat × Value)} (hl : (i, v) :: xx_f1 i L = L') : (i, xx_v ad v) :: xx_f1 i (L.map (fun q => (q.1, xx_v ad q.2))) = L'.map (fun q => (q.1, xx_v ad q.2)) := by
  rw [← hl, List.map_cons]
  exact congrArg _ (xx_fil (P := fun q => !(q == i)) (P2 := fun q => q + 1 == i) L)
theorem xx_stl2 {ad : Nat → Nat} {i : Nat} {v : Value} {L' : List (Nat × Value)} (hl : (i, v) :: xx_f2 i L = L') : (i, xx_v ad v) :: xx_f2 i (L.map (fun q => (q.1, xx_v ad q.2))) = L'.map (fun q => (q.1, xx_v ad q.2)) := by
  rw [← hl, List.map_cons]
  exact congrArg _ (xx_fil2 i L)
theorem xx_stw {n i : Nat} {v : Value} {L' : List (Nat × Value)} (hl : (i, v) :: xx_f1 i L = L') (hv : xx_vw n v) (h : ∀ q ∈ L, xx_vw n q.2) : ∀ q ∈ L', xx_vw n q.2 := by
  rw [← hl]
  intro q hq
  rcases List.mem_cons.mp hq with e | hq
  · rw [e]; exact hv
  · exact h q (List.mem_filter.mp hq).1
theorem xx_stw2 {n i : Nat} {v : Value} {L' : List (Nat × Value)} (hl : (i, v) :: xx_f2 i L = L') (hv : xx_vw n v) (h : ∀ q ∈ L, xx_vw n q.2) : ∀ q ∈ L', xx_vw n q.2 := by
  rw [← hl]
  intro q hq
  rcases List.mem_cons.mp hq with e | hq
  · rw [e]; exact hv
  · exact h q (List.mem_filter.mp hq).1
theorem J_iconst {z : Int} {v : Int32} (hd : decode M.2.2.1 pc = .ok (.iconst z, 1)) (hv : Int32.ofInt z = v) (kk : xx_J G l M fr lo mc ms Post (pc + 1) L (.int v :: S) A n k j) : xx_J G l M fr lo mc ms Post pc L S A n k j := by
  intro p e s m args below meth c ad0 n0 F ad H locs ls ⟨a1, a2, a3, a4, a5, a6, a7⟩
  exact lv_iconst F.1 F.2.1 hd hv (kk p e s m args below meth c ad0 n0 F ad H locs ls ⟨a1, a2, a3, a4, a5, xx_c trivial a6, a7⟩)
theorem J_bipush {z : Int} {v : Int32} (hd : decode M.2.2.1 pc = .ok (.bipush z, 2)) (hv : (Int8.ofInt z).toInt32 = v) (kk : xx_J G l M fr lo mc ms Post (pc + 2) L (.int v :: S) A n k j) : xx_J G l M fr lo mc ms Post pc L S A n k j := by
  intro p e s m args below meth c ad0 n0 F ad H locs ls ⟨a1, a2, a3, a4, a5, a6, a7⟩
  exact lv_bipush F.1 F.2.1 hd hv (kk p e s m args below meth c ad0 n0 F ad H locs ls ⟨a1, a2, a3, a4, a5, xx_c trivial a6, a7⟩)
theorem J_sipush {z : Int} {v : Int32} (hd : decode M.2.2.1 pc = .ok (.sipush z, 3)) (hv : (Int16.ofInt z).toInt32 = v) (kk : xx_J G l M fr lo mc ms Post (pc + 3) L (.int v :: S) A n k j) : xx_J G l M fr lo mc ms Post pc L S A n k j := by
  intro p e s m args below meth c ad0 n0 F ad H locs ls ⟨a1, a2, a3, a4, a5, a6, a7⟩
  exact lv_sipush F.1 F.2.1 hd hv (kk p e s m args below meth c ad0 n0 F ad H locs ls ⟨a1, a2, a3, a4, a5, xx_c trivial a6, a7⟩)
theorem J_lconst {z : Fin 2} {v : Int64} (hd : decode M.2.2.1 pc = .ok (.lconst z, 1)) (hv : Int64.ofNat (z : Nat) = v) (kk : xx_J G l M fr lo mc ms Post (pc + 1) L (.long v :: S) A n k j) : xx_J G l M fr lo mc ms Post pc L S A n k j := by
  intro p e s m args below meth c ad0 n0 F ad H locs ls ⟨a1, a2, a3, a4, a5, a6, a7⟩
  exact lv_lconst F.1 F.2.1 hd hv (kk p e s m args below meth c ad0 n0 F ad H locs ls ⟨a1, a2, a3, a4, a5, xx_c trivial a6, a7⟩)
theorem J_iload_n {q : Fin 4} {i : Nat} {x : Int32} (hd : decode M.2.2.1 pc = .ok (.iload_n q, 1)) (hi : (q : Nat) = i) (hl : L.find? (fun q => q.1 == i) = some (i, .int x)) (kk : xx_J G l M fr lo mc ms Post (pc + 1) L (.int x :: S) A n k j) : xx_J G l M fr lo mc ms Post pc L S A n k j := by
  intro p e s m args below meth c ad0 n0 F ad H locs ls ⟨a1, a2, a3, a4, a5, a6, a7⟩
  exact lv_iload_n F.1 F.2.1 hd hi (xx_ld a5 hl) (kk p e s m args below meth c ad0 n0 F ad H locs ls ⟨a1, a2, a3, a4, a5, xx_c trivial a6, a7⟩)
theorem J_iload {i : Nat} {x : Int32} (hd : decode M.2.2.1 pc = .ok (.iload i, 2)) (hl : L.find? (fun q => q.1 == i) = some (i, .int x)) (kk : xx_J G l M fr lo mc ms Post (pc + 2) L (.int x :: S) A n k j) : xx_J G l M fr lo mc ms Post pc L S A n k j := by
  intro p e s m args below meth c ad0 n0 F ad H locs ls ⟨a1, a2, a3, a4, a5, a6, a7⟩
  exact lv_iload F.1 F.2.1 hd (xx_ld a5 hl) (kk p e s m args below meth c ad0 n0 F ad H locs ls ⟨a1, a2, a3, a4, a5, xx_c trivial a6, a7⟩)
theorem J_lload_n {q : Fin 4} {i : Nat} {x : Int64} (hd : decode M.2.2.1 pc = .ok (.lload_n q, 1)) (hi : (q : Nat) = i) (hl : L.find? (fun q => q.1 == i) = some (i, .long x)) (kk : xx_J G l M fr lo mc ms Post (pc + 1) L (.long x :: S) A n k j) : xx_J G l M fr lo mc ms Post pc L S A n k j := by
  intro p e s m args below meth c ad0 n0 F ad H locs ls ⟨a1, a2, a3, a4, a5, a6, a7⟩
  exact lv_lload_n F.1 F.2.1 hd hi (xx_ld a5 hl) (kk p e s m args below meth c ad0 n0 F ad H locs ls ⟨a1, a2, a3, a4, a5, xx_c trivial a6, a7⟩)
theorem J_lload {i : Nat} {x : Int64} (hd : decode M.2.2.1 pc = .ok (.lload i, 2)) (hl : L.find? (fun q => q.1 == i) = some (i, .long x)) (kk : xx_J G l M fr lo mc ms Post (pc + 2) L (.long x :: S) A n k j) : xx_J G l M fr lo mc ms Post pc L S A n k j := by
  intro p e s m args below meth c ad0 n0 F ad H locs ls ⟨a1, a2, a3, a4, a5, a6, a7⟩
  exact lv_lload F.1 F.2.1 hd (xx_ld a5 hl) (kk p e s m args below meth c ad0 n0 F ad H locs ls ⟨a1, a2, a3, a4, a5, xx_c trivial a6, a7⟩)
theorem J_aload_n {q : Fin 4} {i : Nat} {x : Nat} (hd : decode M.2.2.1 pc = .ok (.aload_n q, 1)) (hi : (q : Nat) = i) (hl : L.find? (fun q => q.1 == i) = some (i, .ref x)) (kk : xx_J G l M fr lo mc ms Post (pc + 1) L (.ref x :: S) A n k j) : xx_J G l M fr lo mc ms Post pc L S A n k j := by
  intro p e s m args below meth c ad0 n0 F ad H locs ls ⟨a1, a2, a3, a4, a5, a6, a7⟩
  exact lv_aload_n F.1 F.2.1 hd hi (xx_ld a5 hl) (kk p e s m args below meth c ad0 n0 F ad H locs ls ⟨a1, a2, a3, a4, a5, xx_c (xx_ldw a7 hl) a6, a7⟩)
theorem J_aload {i : Nat} {x : Nat} (hd : decode M.2.2.1 pc = .ok (.aload i, 2)) (hl : L.find? (fun q => q.1 == i) = some (i, .ref x)) (kk : xx_J G l M fr lo mc ms Post (pc + 2) L (.ref x :: S) A n k j) : xx_J G l M fr lo mc ms Post pc L S A n k j := by
  intro p e s m args below meth c ad0 n0 F ad H locs ls ⟨a1, a2, a3, a4, a5, a6, a7⟩
  exact lv_aload F.1 F.2.1 hd (xx_ld a5 hl) (kk p e s m args below meth c ad0 n0 F ad H locs ls ⟨a1, a2, a3, a4, a5, xx_c (xx_ldw a7 hl) a6, a7⟩)
theorem J_dload_n {q : Fin 4} {i : Nat} {x : UInt64} (hd : decode M.2.2.1 pc = .ok (.dload_n q, 1)) (hi : (q : Nat) = i) (hl : L.find? (fun q => q.1 == i) = some (i, .double x)) (kk : xx_J G l M fr lo mc ms Post (pc + 1) L (.double x :: S) A n k j) : xx_J G l M fr lo mc ms Post pc L S A n k j := by
  intro p e s m args below meth c ad0 n0 F ad H locs ls ⟨a1, a2, a3, a4, a5, a6, a7⟩
  exact lv_dload_n F.1 F.2.1 hd hi (xx_ld a5 hl) (kk p e s m args below meth c ad0 n0 F ad H locs ls ⟨a1, a2, a3, a4, a5, xx_c trivial a6, a7⟩)
theorem J_dload {i : Nat} {x : UInt64} (hd : decode M.2.2.1 pc = .ok (.dload i, 2)) (hl : L.find? (fun q => q.1 == i) = some (i, .double x)) (kk : xx_J G l M fr lo mc ms Post (pc + 2) L (.double x :: S) A n k j) : xx_J G l M fr lo mc ms Post pc L S A n k j := by
  intro p e s m args below meth c ad0 n0 F ad H locs ls ⟨a1, a2, a3, a4, a5, a6, a7⟩
  exact lv_dload F.1 F.2.1 hd (xx_ld a5 hl) (kk p e s m args below meth c ad0 n0 F ad H locs ls ⟨a1, a2, a3, a4, a5, xx_c trivial a6, a7⟩)
theorem J_istore_n {q : Fin 4} {i : Nat} {x : Int32} {L' : List (Nat × Value)} (hd : decode M.2.2.1 pc = .ok (.istore_n q, 1)) (hi : (q : Nat) = i) (hn : i < M.2.2.2.1) (hl : (i, .int x) :: xx_f1 i L = L') (kk : xx_J G l M fr lo mc ms Post (pc + 1) L' S A n k j) : xx_J G l M fr lo mc ms Post pc L (.int x :: S) A n k j := by
  intro p e s m args below meth c ad0 n0 F ad H locs ls ⟨a1, a2, a3, a4, a5, a6, a7⟩
  exact lv_istore_n F.1 F.2.1 hd hi a5 hn (xx_stl hl) (fun ls' h9 => kk p e s m args below meth c ad0 n0 F ad H locs ls' ⟨a1, a2, a3, a4, h9, xx_t a6, xx_stw hl trivial a7⟩)
theorem J_istore {i : Nat} {x : Int32} {L' : List (Nat × Value)} (hd : decode M.2.2.1 pc = .ok (.istore i, 2)) (hn : i < M.2.2.2.1) (hl : (i, .int x) :: xx_f1 i L = L') (kk : xx_J G l M fr lo mc ms Post (pc + 2) L' S A n k j) : xx_J G l M fr lo mc ms Post pc L (.int x :: S) A n k j := by
  intro p e s m args below meth c ad0 n0 F ad H locs ls ⟨a1, a2, a3, a4, a5, a6, a7⟩
  exact lv_istore F.1 F.2.1 hd a5 hn (xx_stl hl) (fun ls' h9 => kk p e s m args below meth c ad0 n0 F ad H locs ls' ⟨a1, a2, a3, a4, h9, xx_t a6, xx_stw hl trivial a7⟩)
theorem J_lstore_n {q : Fin 4} {i : Nat} {x : Int64} {L' : List (Nat × Value)} (hd : decode M.2.2.1 pc = .ok (.lstore_n q, 1)) (hi : (q : Nat) = i) (hn : i + 1 < M.2.2.2.1) (hl : (i, .long x) :: xx_f2 i L = L') (kk : xx_J G l M fr lo mc ms Post (pc + 1) L' S A n k j) : xx_J G l M fr lo mc ms Post pc L (.long x :: S) A n k j := by
  intro p e s m args below meth c ad0 n0 F ad H locs ls ⟨a1, a2, a3, a4, a5, a6, a7⟩
  exact lv_lstore_n F.1 F.2.1 hd hi a5 hn (xx_stl2 hl) (fun ls' h9 => kk p e s m args below meth c ad0 n0 F ad H locs ls' ⟨a1, a2, a3, a4, h9, xx_t a6, xx_stw2 hl trivial a7⟩)
theorem J_lstore {i : Nat} {x : Int64} {L' : List (Nat × Value)} (hd : decode M.2.2.1 pc = .ok (.lstore i, 2)) (hn : i + 1 < M.2.2.2.1) (hl : (i, .long x) :: xx_f2 i L = L') (kk : xx_J G l M fr lo mc ms Post (pc + 2) L' S A n k j) : xx_J G l M fr lo mc ms Post pc L (.long x :: S) A n k j := by
  intro p e s m args below meth c ad0 n0 F ad H locs ls ⟨a1, a2, a3, a4, a5, a6, a7⟩
  exact lv_lstore F.1 F.2.1 hd a5 hn (xx_stl2 hl) (fun ls' h9 => kk p e s m args below meth c ad0 n0 F ad H locs ls' ⟨a1, a2, a3, a4, h9, xx_t a6, xx_stw2 hl trivial a7⟩)
theorem J_astore_n {q : Fin 4} {i : Nat} {x : Nat} {L' : List (Nat × Value)} (hd : decode M.2.2.1 pc = .ok (.astore_n q, 1)) (hi : (q : Nat) = i) (hn : i < M.2.2.2.1) (hl : (i, .ref x) :: xx_f1 i L = L') (kk : xx_J G l M fr lo mc ms Post (pc + 1) L' S A n k j) : xx_J G l M fr lo mc ms Post pc L (.ref x :: S) A n k j := by
  intro p e s m args below meth c ad0 n0 F ad H locs ls ⟨a1, a2, a3, a4, a5, a6, a7⟩
  exact lv_astore_n F.1 F.2.1 hd hi a5 hn (xx_stl hl) (fun ls' h9 => kk p e s m args below meth c ad0 n0 F ad H locs ls' ⟨a1, a2, a3, a4, h9, xx_t a6, xx_stw hl (a6 _ List.mem_cons_self) a7⟩)
theorem J_astore {i : Nat} {x : Nat} {L' : List (Nat × Value)} (hd : decode M.2.2.1 pc = .ok (.astore i, 2)) (hn : i < M.2.2.2.1) (hl : (i, .ref x) :: xx_f1 i L = L') (kk : xx_J G l M fr lo mc ms Post (pc + 2) L' S A n k j) : xx_J G l M fr lo mc ms Post pc L (.ref x :: S) A n k j := by
  intro p e s m args below meth c ad0 n0 F ad H locs ls ⟨a1, a2, a3, a4, a5, a6, a7⟩
  exact lv_astore F.1 F.2.1 hd a5 hn (xx_stl hl) (fun ls' h9 => kk p e s m args below meth c ad0 n0 F ad H locs ls' ⟨a1, a2, a3, a4, h9, xx_t a6, xx_stw hl (a6 _ List.mem_cons_self) a7⟩)
theorem J_dstore_n {q : Fin 4} {i : Nat} {x : UInt64} {L' : List (Nat × Value)} (hd : decode M.2.2.1 pc = .ok (.dstore_n q, 1)) (hi : (q : Nat) = i) (hn : i + 1 < M.2.2.2.1) (hl : (i, .double x) :: xx_f2 i L = L') (kk : xx_J G l M fr lo mc ms Post (pc + 1) L' S A n k j) : xx_J G l M fr lo mc ms Post pc L (.double x :: S) A n k j := by
  intro p e s m args below meth c ad0 n0 F ad H locs ls ⟨a1, a2, a3, a4, a5, a6, a7⟩
  exact lv_dstore_n F.1 F.2.1 hd hi a5 hn (xx_stl2 hl) (fun ls' h9 => kk p e s m args below meth c ad0 n0 F ad H locs ls' ⟨a1, a2, a3, a4, h9, xx_t a6, xx_stw2 hl trivial a7⟩)
theorem J_dstore {i : Nat} {x : UInt64} {L' : List (Nat × Value)} (hd : decode M.2.2.1 pc = .ok (.dstore i, 2)) (hn : i + 1 < M.2.2.2.1) (hl : (i, .double x) :: xx_f2 i L = L') (kk : xx_J G l M fr lo mc ms Post (pc + 2) L' S A n k j) : xx_J G l M fr lo mc ms Post pc L (.double x :: S) A n k j := by
  intro p e s m args below meth c ad0 n0 F ad H locs ls ⟨a1, a2, a3, a4, a5, a6, a7⟩
  exact lv_dstore F.1 F.2.1 hd a5 hn (xx_stl2 hl) (fun ls' h9 => kk p e s m args below meth c ad0 n0 F ad H locs ls' ⟨a1, a2, a3, a4, h9, xx_t a6, xx_stw2 hl trivial a7⟩)
theorem J_iinc {i : Nat} {z : Int} {x v : Int32} {L' : List (Nat × Value)} (hd : decode M.2.2.1 pc = .ok (.iinc i z, 3)) (hx : L.find? (fun q => q.1 == i) = some (i, .int x)) (hv : x + Int32.ofInt z = v) (hn : i < M.2.2.2.1) (hl : (i, Value.int v) :: xx_f1 i L = L') (kk : xx_J G l M fr lo mc ms Post (pc + 3) L' S A n k j) : xx_J G l M fr lo mc ms Post pc L S A n k j := by
  intro p e s m args below meth c ad0 n0 F ad H locs ls ⟨a1, a2, a3, a4, a5, a6, a7⟩
  obtain ⟨idx, hk⟩ := List.getElem?_of_mem (List.mem_map.mpr ⟨(i, Value.int x), List.mem_of_find?_eq_some hx, rfl⟩ : (i, Value.int x) ∈ L.map (fun q => (q.1, xx_v ad q.2)))
  exact lv_iinc F.1 F.2.1 hd a5 hk hv hn (xx_stl hl) (fun ls' h9 => kk p e s m args below meth c ad0 n0 F ad H locs ls' ⟨a1, a2, a3, a4, h9, a6, xx_stw hl trivial a7⟩)
theorem J_iadd {x y : Int32} (hd : decode M.2.2.1 pc = .ok (.iadd, 1)) (kk : xx_J G l M fr lo mc ms Post (pc + 1) L (.int (x + y) :: S) A n k j) : xx_J G l M fr lo mc ms Post pc L (.int y :: .int x :: S) A n k j := by
  intro p e s m args below meth c ad0 n0 F ad H locs ls ⟨a1, a2, a3, a4, a5, a6, a7⟩
  exact lv_iadd F.1 F.2.1 hd (kk p e s m args below meth c ad0 n0 F ad H locs ls ⟨a1, a2, a3, a4, a5, xx_c trivial (xx_t (xx_t a6)), a7⟩)
theorem J_isub {x y : Int32} (hd : decode M.2.2.1 pc = .ok (.isub, 1)) (kk : xx_J G l M fr lo mc ms Post (pc + 1) L (.int (x - y) :: S) A n k j) : xx_J G l M fr lo mc ms Post pc L (.int y :: .int x :: S) A n k j := by
  intro p e s m args below meth c ad0 n0 F ad H locs ls ⟨a1, a2, a3, a4, a5, a6, a7⟩
  exact lv_isub F.1 F.2.1 hd (kk p e s m args below meth c ad0 n0 F ad H locs ls ⟨a1, a2, a3, a4, a5, xx_c trivial (xx_t (xx_t a6)), a7⟩)
theorem J_imul {x y : Int32} (hd : decode M.2.2.1 pc = .ok (.imul, 1)) (kk : xx_J G l M fr lo mc ms Post (pc + 1) L (.int (x * y) :: S) A n k j) : xx_J G l M fr lo mc ms Post pc L (.int y :: .int x :: S) A n k j := by
  intro p e s m args below meth c ad0 n0 F ad H locs ls ⟨a1, a2, a3, a4, a5, a6, a7⟩
  exact lv_imul F.1 F.2.1 hd (kk p e s m args below meth c ad0 n0 F ad H locs ls ⟨a1, a2, a3, a4, a5, xx_c trivial (xx_t (xx_t a6)), a7⟩)
theorem J_iand {x y : Int32} (hd : decode M.2.2.1 pc = .ok (.iand, 1)) (kk : xx_J G l M fr lo mc ms Post (pc + 1) L (.int (x &&& y) :: S) A n k j) : xx_J G l M fr lo mc ms Post pc L (.int y :: .int x :: S) A n k j := by
  intro p e s m args below meth c ad0 n0 F ad H locs ls ⟨a1, a2, a3, a4, a5, a6, a7⟩
  exact lv_iand F.1 F.2.1 hd (kk p e s m args below meth c ad0 n0 F ad H locs ls ⟨a1, a2, a3, a4, a5, xx_c trivial (xx_t (xx_t a6)), a7⟩)
theorem J_ior {x y : Int32} (hd : decode M.2.2.1 pc = .ok (.ior, 1)) (kk : xx_J G l M fr lo mc ms Post (pc + 1) L (.int (x ||| y) :: S) A n k j) : xx_J G l M fr lo mc ms Post pc L (.int y :: .int x :: S) A n k j := by
  intro p e s m args below meth c ad0 n0 F ad H locs ls ⟨a1, a2, a3, a4, a5, a6, a7⟩
  exact lv_ior F.1 F.2.1 hd (kk p e s m args below meth c ad0 n0 F ad H locs ls ⟨a1, a2, a3, a4, a5, xx_c trivial (xx_t (xx_t a6)), a7⟩)
theorem J_ixor {x y : Int32} (hd : decode M.2.2.1 pc = .ok (.ixor, 1)) (kk : xx_J G l M fr lo mc ms Post (pc + 1) L (.int (x ^^^ y) :: S) A n k j) : xx_J G l M fr lo mc ms Post pc L (.int y :: .int x :: S) A n k j := by
  intro p e s m args below meth c ad0 n0 F ad H locs ls ⟨a1, a2, a3, a4, a5, a6, a7⟩
  exact lv_ixor F.1 F.2.1 hd (kk p e s m args below meth c ad0 n0 F ad H locs ls ⟨a1, a2, a3, a4, a5, xx_c trivial (xx_t (xx_t a6)), a7⟩)
theorem J_ladd {x y : Int64} (hd : decode M.2.2.1 pc = .ok (.ladd, 1)) (kk : xx_J G l M fr lo mc ms Post (pc + 1) L (.long (x + y) :: S) A n k j) : xx_J G l M fr lo mc ms Post pc L (.long y :: .long x :: S) A n k j := by
  intro p e s m args below meth c ad0 n0 F ad H locs ls ⟨a1, a2, a3, a4, a5, a6, a7⟩
  exact lv_ladd F.1 F.2.1 hd (kk p e s m args below meth c ad0 n0 F ad H locs ls ⟨a1, a2, a3, a4, a5, xx_c trivial (xx_t (xx_t a6)), a7⟩)
theorem J_lsub {x y : Int64} (hd : decode M.2.2.1 pc = .ok (.lsub, 1)) (kk : xx_J G l M fr lo mc ms Post (pc + 1) L (.long (x - y) :: S) A n k j) : xx_J G l M fr lo mc ms Post pc L (.long y :: .long x :: S) A n k j := by
  intro p e s m args below meth c ad0 n0 F ad H locs ls ⟨a1, a2, a3, a4, a5, a6, a7⟩
  exact lv_lsub F.1 F.2.1 hd (kk p e s m args below meth c ad0 n0 F ad H locs ls ⟨a1, a2, a3, a4, a5, xx_c trivial (xx_t (xx_t a6)), a7⟩)
theorem J_lmul {x y : Int64} (hd : decode M.2.2.1 pc = .ok (.lmul, 1)) (kk : xx_J G l M fr lo mc ms Post (pc + 1) L (.long (x * y) :: S) A n k j) : xx_J G l M fr lo mc ms Post pc L (.long y :: .long x :: S) A n k j := by
  intro p e s m args below meth c ad0 n0 F ad H locs ls ⟨a1, a2, a3, a4, a5, a6, a7⟩
  exact lv_lmul F.1 F.2.1 hd (kk p e s m args below meth c ad0 n0 F ad H locs ls ⟨a1, a2, a3, a4, a5, xx_c trivial (xx_t (xx_t a6)), a7⟩)
theorem J_idiv {x y : Int32} (hd : decode M.2.2.1 pc = .ok (.idiv, 1)) (hne : ¬ y = 0) (kk : xx_J G l M fr lo mc ms Post (pc + 1) L (.int (x / y) :: S) A n k j) : xx_J G l M fr lo mc ms Post pc L (.int y :: .int x :: S) A n k j := by
  intro p e s m args below meth c ad0 n0 F ad H locs ls ⟨a1, a2, a3, a4, a5, a6, a7⟩
  exact lv_idiv F.1 F.2.1 hd hne (kk p e s m args below meth c ad0 n0 F ad H locs ls ⟨a1, a2, a3, a4, a5, xx_c trivial (xx_t (xx_t a6)), a7⟩)
theorem J_irem {x y : Int32} (hd : decode M.2.2.1 pc = .ok (.irem, 1)) (hne : ¬ y = 0) (kk : xx_J G l M fr lo mc ms Post (pc + 1) L (.int (x - x / y * y) :: S) A n k j) : xx_J G l M fr lo mc ms Post pc L (.int y :: .int x :: S) A n k j := by
  intro p e s m args below meth c ad0 n0 F ad H locs ls ⟨a1, a2, a3, a4, a5, a6, a7⟩
  exact lv_irem F.1 F.2.1 hd hne (kk p e s m args below meth c ad0 n0 F ad H locs ls ⟨a1, a2, a3, a4, a5, xx_c trivial (xx_t (xx_t a6)), a7⟩)
theorem J_ishl {x y : Int32} (hd : decode M.2.2.1 pc = .ok (.ishl, 1)) (kk : xx_J G l M fr lo mc ms Post (pc + 1) L (.int (x <<< (y &&& 31)) :: S) A n k j) : xx_J G l M fr lo mc ms Post pc L (.int y :: .int x :: S) A n k j := by
  intro p e s m args below meth c ad0 n0 F ad H locs ls ⟨a1, a2, a3, a4, a5, a6, a7⟩
  exact lv_ishl F.1 F.2.1 hd (kk p e s m args below meth c ad0 n0 F ad H locs ls ⟨a1, a2, a3, a4, a5, xx_c trivial (xx_t (xx_t a6)), a7⟩)
theorem J_ishr {x y : Int32} (hd : decode M.2.2.1 pc = .ok (.ishr, 1)) (kk : xx_J G l M fr lo mc ms Post (pc + 1) L (.int (x >>> (y &&& 31)) :: S) A n k j) : xx_J G l M fr lo mc ms Post pc L (.int y :: .int x :: S) A n k j := by
  intro p e s m args below meth c ad0 n0 F ad H locs ls ⟨a1, a2, a3, a4, a5, a6, a7⟩
  exact lv_ishr F.1 F.2.1 hd (kk p e s m args below meth c ad0 n0 F ad H locs ls ⟨a1, a2, a3, a4, a5, xx_c trivial (xx_t (xx_t a6)), a7⟩)
theorem J_iushr {x y : Int32} (hd : decode M.2.2.1 pc = .ok (.iushr, 1)) {v : Int32} (hv : (x.toUInt32 >>> (y.toUInt32 &&& Int32.toUInt32 31)).toInt32 = v) (kk : xx_J G l M fr lo mc ms Post (pc + 1) L (.int v :: S) A n k j) : xx_J G l M fr lo mc ms Post pc L (.int y :: .int x :: S) A n k j := by
  intro p e s m args below meth c ad0 n0 F ad H locs ls ⟨a1, a2, a3, a4, a5, a6, a7⟩
  exact lv_iushr F.1 F.2.1 hd hv (kk p e s m args below meth c ad0 n0 F ad H locs ls ⟨a1, a2, a3, a4, a5, xx_c trivial (xx_t (xx_t a6)), a7⟩)
theorem J_ineg {x : Int32} (hd : decode M.2.2.1 pc = .ok (.ineg, 1)) (kk : xx_J G l M fr lo mc ms Post (pc + 1) L (.int (-x) :: S) A n k j) : xx_J G l M fr lo mc ms Post pc L (.int x :: S) A n k j := by
  intro p e s m args below meth c ad0 n0 F ad H locs ls ⟨a1, a2, a3, a4, a5, a6, a7⟩
  exact lv_ineg F.1 F.2.1 hd (kk p e s m args below meth c ad0 n0 F ad H locs ls ⟨a1, a2, a3, a4, a5, xx_c trivial (xx_t a6), a7⟩)
theorem J_i2l {x : Int32} (hd : decode M.2.2.1 pc = .ok (.i2l, 1)) {v : Int64} (hv : x.toInt64 = v) (kk : xx_J G l M fr lo mc ms Post (pc + 1) L (.long v :: S) A n k j) : xx_J G l M fr lo mc ms Post pc L (.int x :: S) A n k j := by
  intro p e s m args below meth c ad0 n0 F ad H locs ls ⟨a1, a2, a3, a4, a5, a6, a7⟩
  exact lv_i2l F.1 F.2.1 hd hv (kk p e s m args below meth c ad0 n0 F ad H locs ls ⟨a1, a2, a3, a4, a5, xx_c trivial (xx_t a6), a7⟩)
theorem J_l2i {x : Int64} (hd : decode M.2.2.1 pc = .ok (.l2i, 1)) {v : Int32} (hv : x.toInt32 = v) (kk : xx_J G l M fr lo mc ms Post (pc + 1) L (.int v :: S) A n k j) : xx_J G l M fr lo mc ms Post pc L (.long x :: S) A n k j := by
  intro p e s m args below meth c ad0 n0 F ad H locs ls ⟨a1, a2, a3, a4, a5, a6, a7⟩
  exact lv_l2i F.1 F.2.1 hd hv (kk p e s m args below meth c ad0 n0 F ad H locs ls ⟨a1, a2, a3, a4, a5, xx_c trivial (xx_t a6), a7⟩)
theorem J_i2b {x : Int32} (hd : decode M.2.2.1 pc = .ok (.i2b, 1)) {v : Int32} (hv : x.toInt8.toInt32 = v) (kk : xx_J G l M fr lo mc ms Post (pc + 1) L (.int v :: S) A n k j) : xx_J G l M fr lo mc ms Post pc L (.int x :: S) A n k j := by
  intro p e s m args below meth c ad0 n0 F ad H locs ls ⟨a1, a2, a3, a4, a5, a6, a7⟩
  exact lv_i2b F.1 F.2.1 hd hv (kk p e s m args below meth c ad0 n0 F ad H locs ls ⟨a1, a2, a3, a4, a5, xx_c trivial (xx_t a6), a7⟩)
theorem J_i2c {x : Int32} (hd : decode M.2.2.1 pc = .ok (.i2c, 1)) {v : Int32} (hv : (x.toUInt32 % 65536).toInt32 = v) (kk : xx_J G l M fr lo mc ms Post (pc + 1) L (.int v :: S) A n k j) : xx_J G l M fr lo mc ms Post pc L (.int x :: S) A n k j := by
  intro p e s m args below meth c ad0 n0 F ad H locs ls ⟨a1, a2, a3, a4, a5, a6, a7⟩
  exact lv_i2c F.1 F.2.1 hd hv (kk p e s m args below meth c ad0 n0 F ad H locs ls ⟨a1, a2, a3, a4, a5, xx_c trivial (xx_t a6), a7⟩)
theorem J_i2d {x : Int32} (hd : decode M.2.2.1 pc = .ok (.i2d, 1)) (kk : xx_J G l M fr lo mc ms Post (pc + 1) L (.double (FP.i2d x) :: S) A n k j) : xx_J G l M fr lo mc ms Post pc L (.int x :: S) A n k j := by
  intro p e s m args below meth c ad0 n0 F ad H locs ls ⟨a1, a2, a3, a4, a5, a6, a7⟩
  exact lv_i2d F.1 F.2.1 hd (kk p e s m args below meth c ad0 n0 F ad H locs ls ⟨a1, a2, a3, a4, a5, xx_c trivial (xx_t a6), a7⟩)
theorem J_dup {v : Value} (hd : decode M.2.2.1 pc = .ok (.dup, 1)) (hc : v.category = 1) (kk : xx_J G l M fr lo mc ms Post (pc + 1) L (v :: v :: S) A n k j) : xx_J G l M fr lo mc ms Post pc L (v :: S) A n k j := by
  intro p e s m args below meth c ad0 n0 F ad H locs ls ⟨a1, a2, a3, a4, a5, a6, a7⟩
  exact lv_dup F.1 F.2.1 hd (by rw [xx_cat]; exact hc) (kk p e s m args below meth c ad0 n0 F ad H locs ls ⟨a1, a2, a3, a4, a5, xx_c (a6 _ List.mem_cons_self) a6, a7⟩)
theorem J_pop {v : Value} (hd : decode M.2.2.1 pc = .ok (.pop, 1)) (hc : v.category = 1) (kk : xx_J G l M fr lo mc ms Post (pc + 1) L S A n k j) : xx_J G l M fr lo mc ms Post pc L (v :: S) A n k j := by
  intro p e s m args below meth c ad0 n0 F ad H locs ls ⟨a1, a2, a3, a4, a5, a6, a7⟩
  exact lv_pop F.1 F.2.1 hd (by rw [xx_cat]; exact hc) (kk p e s m args below meth c ad0 n0 F ad H locs ls ⟨a1, a2, a3, a4, a5, xx_t a6, a7⟩)
theorem J_dup2 {u v : Value} (hd : decode M.2.2.1 pc = .ok (.dup2, 1)) (hc : u.category = 1) (hc2 : v.category = 1) (kk : xx_J G l M fr lo mc ms Post (pc + 1) L (u :: v :: u :: v :: S) A n k j) : xx_J G l M fr lo mc ms Post pc L (u :: v :: S) A n k j := by
  intro p e s m args below meth c ad0 n0 F ad H locs ls ⟨a1, a2, a3, a4, a5, a6, a7⟩
  exact lv_dup2_11 F.1 F.2.1 hd (by rw [xx_cat]; exact hc) (by rw [xx_cat]; exact hc2) (kk p e s m args below meth c ad0 n0 F ad H locs ls ⟨a1, a2, a3, a4, a5, xx_c (a6 _ List.mem_cons_self) (xx_c (a6 _ (List.mem_cons_of_mem _ List.mem_cons_self)) a6), a7⟩)
theorem J_dup_x1 {u v : Value} (hd : decode M.2.2.1 pc = .ok (.dup_x1, 1)) (hc : u.category = 1) (hc2 : v.category = 1) (kk : xx_J G l M fr lo mc ms Post (pc + 1) L (u :: v :: u :: S) A n k j) : xx_J G l M fr lo mc ms Post pc L (u :: v :: S) A n k j := by
  intro p e s m args below meth c ad0 n0 F ad H locs ls ⟨a1, a2, a3, a4, a5, a6, a7⟩
  exact lv_dup_x1 F.1 F.2.1 hd (by rw [xx_cat]; exact hc) (by rw [xx_cat]; exact hc2) (kk p e s m args below meth c ad0 n0 F ad H locs ls ⟨a1, a2, a3, a4, a5, xx_c (a6 _ List.mem_cons_self) (xx_c (a6 _ (List.mem_cons_of_mem _ List.mem_cons_self)) (xx_c (a6 _ List.mem_cons_self) (xx_t (xx_t a6)))), a7⟩)
theorem J_lcmp {x y : Int64} (hd : decode M.2.2.1 pc = .ok (.lcmp, 1)) (kk : xx_J G l M fr lo mc ms Post (pc + 1) L (.int (lg_cmp x y) :: S) A n k j) : xx_J G l M fr lo mc ms Post pc L (.long y :: .long x :: S) A n k j := by
  intro p e s m args below meth c ad0 n0 F ad H locs ls ⟨a1, a2, a3, a4, a5, a6, a7⟩
  exact W.lcmp F.1 F.2.1 hd (kk p e s m args below meth c ad0 n0 F ad H locs ls ⟨a1, a2, a3, a4, a5, xx_c trivial (xx_t (xx_t a6)), a7⟩)
theorem J_if_eq {x : Int32} {off : Int} {tgt : Nat} (hd : decode M.2.2.1 pc = .ok (.ifCond .eq off, 3)) (ht : (pc : Int) + off = (tgt : Int)) (kt : x = 0 → xx_J G l M fr lo mc ms Post tgt L S A n k j) (kf : ¬ x = 0 → xx_J G l M fr lo mc ms Post (pc + 3) L S A n k j) : xx_J G l M fr lo mc ms Post pc L (.int x :: S) A n k j := by
  intro p e s m args below meth c ad0 n0 F ad H locs ls ⟨a1, a2, a3, a4, a5, a6, a7⟩
  exact lv_if_eq F.1 F.2.1 hd ht (fun h => kt h p e s m args below meth c ad0 n0 F ad H locs ls ⟨a1, a2, a3, a4, a5, xx_t a6, a7⟩) (fun h => kf h p e s m args below meth c ad0 n0 F ad H locs ls ⟨a1, a2, a3, a4, a5, xx_t a6, a7⟩)
theorem J_icmp_eq {x y : Int32} {off : Int} {tgt : Nat} (hd : decode M.2.2.1 pc = .ok (.if_icmp .eq off, 3)) (ht : (pc : Int) + off = (tgt : Int)) (kt : x = y → xx_J G l M fr lo mc ms Post tgt L S A n k j) (kf : ¬ x = y → xx_J G l M fr lo mc ms Post (pc + 3) L S A n k j) : xx_J G l M fr lo mc ms Post pc L (.int y :: .int x :: S) A n k j := by
  intro p e s m args below meth c ad0 n0 F ad H locs ls ⟨a1, a2, a3, a4, a5, a6, a7⟩
  exact lv_icmp_eq F.1 F.2.1 hd ht (fun h => kt h p e s m args below meth c ad0 n0 F ad H locs ls ⟨a1, a2, a3, a4, a5, xx_t (xx_t a6), a7⟩) (fun h => kf h p e s m args below meth c ad0 n0 F ad H locs ls ⟨a1, a2, a3, a4, a5, xx_t (xx_t a6), a7⟩)
theorem J_if_ne {x : Int32} {off : Int} {tgt : Nat} (hd : decode M.2.2.1 pc = .ok (.ifCond .ne off, 3)) (ht : (pc : Int) + off = (tgt : Int)) (kt : ¬ x = 0 → xx_J G l M fr lo mc ms Post tgt L S A n k j) (kf : x = 0 → xx_J G l M fr lo mc ms Post (pc + 3) L S A n k j) : xx_J G l M fr lo mc ms Post pc L (.int x :: S) A n k j := by
  intro p e s m args below meth c ad0 n0 F ad H locs ls ⟨a1, a2, a3, a4, a5, a6, a7⟩
  exact lv_if_ne F.1 F.2.1 hd ht (fun h => kt h p e s m args below meth c ad0 n0 F ad H locs ls ⟨a1, a2, a3, a4, a5, xx_t a6, a7⟩) (fun h => kf h p e s m args below meth c ad0 n0 F ad H locs ls ⟨a1, a2, a3, a4, a5, xx_t a6, a7⟩)
theorem J_icmp_ne {x y : Int32} {off : Int} {tgt : Nat} (hd : decode M.2.2.1 pc = .ok (.if_icmp .ne off, 3)) (ht : (pc : Int) + off = (tgt : Int)) (kt : ¬ x = y → xx_J G l M fr lo mc ms Post tgt L S A n k j) (kf : x = y → xx_J G l M fr lo mc ms Post (pc + 3) L S A n k j) : xx_J G l M fr lo mc ms Post pc L (.int y :: .int x :: S) A n k j := by
  intro p e s m args below meth c ad0 n0 F ad H locs ls ⟨a1, a2, a3, a4, a5, a6, a7⟩
  exact lv_icmp_ne F.1 F.2.1 hd ht (fun h => kt h p e s m args below meth c ad0 n0 F ad H locs ls ⟨a1, a2, a3, a4, a5, xx_t (xx_t a6), a7⟩) (fun h => kf h p e s m args below meth c ad0 n0 F ad H locs ls ⟨a1, a2, a3, a4, a5, xx_t (xx_t a6), a7⟩)
theorem J_if_lt {x : Int32} {off : Int} {tgt : Nat} (hd : decode M.2.2.1 pc = .ok (.ifCond .lt off, 3)) (ht : (pc : Int) + off = (tgt : Int)) (kt : x < 0 → xx_J G l M fr lo mc ms Post tgt L S A n k j) (kf : ¬ x < 0 → xx_J G l M fr lo mc ms Post (pc + 3) L S A n k j) : xx_J G l M fr lo mc ms Post pc L (.int x :: S) A n k j := by
  intro p e s m args below meth c ad0 n0 F ad H locs ls ⟨a1, a2, a3, a4, a5, a6, a7⟩
  exact lv_if_lt F.1 F.2.1 hd ht (fun h => kt h p e s m args below meth c ad0 n0 F ad H locs ls ⟨a1, a2, a3, a4, a5, xx_t a6, a7⟩) (fun h => kf h p e s m args below meth c ad0 n0 F ad H locs ls ⟨a1, a2, a3, a4, a5, xx_t a6, a7⟩)
theorem J_icmp_lt {x y : Int32} {off : Int} {tgt : Nat} (hd : decode M.2.2.1 pc = .ok (.if_icmp .lt off, 3)) (ht : (pc : Int) + off = (tgt : Int)) (kt : x < y → xx_J G l M fr lo mc ms Post tgt L S A n k j) (kf : ¬ x < y → xx_J G l M fr lo mc ms Post (pc + 3) L S A n k j) : xx_J G l M fr lo mc ms Post pc L (.int y :: .int x :: S) A n k j := by
  intro p e s m args below meth c ad0 n0 F ad H locs ls ⟨a1, a2, a3, a4, a5, a6, a7⟩
  exact lv_icmp_lt F.1 F.2.1 hd ht (fun h => kt h p e s m args below meth c ad0 n0 F ad H locs ls ⟨a1, a2, a3, a4, a5, xx_t (xx_t a6), a7⟩) (fun h => kf h p e s m args below meth c ad0 n0 F ad H locs ls ⟨a1, a2, a3, a4, a5, xx_t (xx_t a6), a7⟩)
theorem J_if_ge {x : Int32} {off : Int} {tgt : Nat} (hd : decode M.2.2.1 pc = .ok (.ifCond .ge off, 3)) (ht : (pc : Int) + off = (tgt : Int)) (kt : 0 ≤ x → xx_J G l M fr lo mc ms Post tgt L S A n k j) (kf : ¬ 0 ≤ x → xx_J G l M fr lo mc ms Post (pc + 3) L S A n k j) : xx_J G l M fr lo mc ms Post pc L (.int x :: S) A n k j := by
  intro p e s m args below meth c ad0 n0 F ad H locs ls ⟨a1, a2, a3, a4, a5, a6, a7⟩
  exact lv_if_ge F.1 F.2.1 hd ht (fun h => kt h p e s m args below meth c ad0 n0 F ad H locs ls ⟨a1, a2, a3, a4, a5, xx_t a6, a7⟩) (fun h => kf h p e s m args below meth c ad0 n0 F ad H locs ls ⟨a1, a2, a3, a4, a5, xx_t a6, a7⟩)
theorem J_icmp_ge {x y : Int32} {off : Int} {tgt : Nat} (hd : decode M.2.2.1 pc = .ok (.if_icmp .ge off, 3)) (ht : (pc : Int) + off = (tgt : Int)) (kt : y ≤ x → xx_J G l M fr lo mc ms Post tgt L S A n k j) (kf : ¬ y ≤ x → xx_J G l M fr lo mc ms Post (pc + 3) L S A n k j) : xx_J G l M fr lo mc ms Post pc L (.int y :: .int x :: S) A n k j := by
  intro p e s m args below meth c ad0 n0 F ad H locs ls ⟨a1, a2, a3, a4, a5, a6, a7⟩
  exact lv_icmp_ge F.1 F.2.1 hd ht (fun h => kt h p e s m args below meth c ad0 n0 F ad H locs ls ⟨a1, a2, a3, a4, a5, xx_t (xx_t a6), a7⟩) (fun h => kf h p e s m args below meth c ad0 n0 F ad H locs ls ⟨a1, a2, a3, a4, a5, xx_t (xx_t a6), a7⟩)
theorem J_if_gt {x : Int32} {off : Int} {tgt : Nat} (hd : decode M.2.2.1 pc = .ok (.ifCond .gt off, 3)) (ht : (pc : Int) + off = (tgt : Int)) (kt : 0 < x → xx_J G l M fr lo mc ms Post tgt L S A n k j) (kf : ¬ 0 < x → xx_J G l M fr lo mc ms Post (pc + 3) L S A n k j) : xx_J G l M fr lo mc ms Post pc L (.int x :: S) A n k j := by
  intro p e s m args below meth c ad0 n0 F ad H locs ls ⟨a1, a2, a3, a4, a5, a6, a7⟩
  exact lv_if_gt F.1 F.2.1 hd ht (fun h => kt h p e s m args below meth c ad0 n0 F ad H locs ls ⟨a1, a2, a3, a4, a5, xx_t a6, a7⟩) (fun h => kf h p e s m args below meth c ad0 n0 F ad H locs ls ⟨a1, a2, a3, a4, a5, xx_t a6, a7⟩)
theorem J_icmp_gt {x y : Int32} {off : Int} {tgt : Nat} (hd : decode M.2.2.1 pc = .ok (.if_icmp .gt off, 3)) (ht : (pc : Int) + off = (tgt : Int)) (kt : y < x → xx_J G l M fr lo mc ms Post tgt L S A n k j) (kf : ¬ y < x → xx_J G l M fr lo mc ms Post (pc + 3) L S A n k j) : xx_J G l M fr lo mc ms Post pc L (.int y :: .int x :: S) A n k j := by
  intro p e s m args below meth c ad0 n0 F ad H locs ls ⟨a1, a2, a3, a4, a5, a6, a7⟩
  exact lv_icmp_gt F.1 F.2.1 hd ht (fun h => kt h p e s m args below meth c ad0 n0 F ad H locs ls ⟨a1, a2, a3, a4, a5, xx_t (xx_t a6), a7⟩) (fun h => kf h p e s m args below meth c ad0 n0 F ad H locs ls ⟨a1, a2, a3, a4, a5, xx_t (xx_t a6), a7⟩)
theorem J_if_le {x : Int32} {off : Int} {tgt : Nat} (hd : decode M.2.2.1 pc = .ok (.ifCond .le off, 3)) (ht : (pc : Int) + off = (tgt : Int)) (kt : x ≤ 0 → xx_J G l M fr lo mc ms Post tgt L S A n k j) (kf : ¬ x ≤ 0 → xx_J G l M fr lo mc ms Post (pc + 3) L S A n k j) : xx_J G l M fr lo mc ms Post pc L (.int x :: S) A n k j := by
  intro p e s m args below meth c ad0 n0 F ad H locs ls ⟨a1, a2, a3, a4, a5, a6, a7⟩
  exact lv_if_le F.1 F.2.1 hd ht (fun h => kt h p e s m args below meth c ad0 n0 F ad H locs ls ⟨a1, a2, a3, a4, a5, xx_t a6, a7⟩) (fun h => kf h p e s m args below meth c ad0 n0 F ad H locs ls ⟨a1, a2, a3, a4, a5, xx_t a6, a7⟩)
theorem J_icmp_le {x y : Int32} {off : Int} {tgt : Nat} (hd : decode M.2.2.1 pc = .ok (.if_icmp .le off, 3)) (ht : (pc : Int) + off = (tgt : Int)) (kt : x ≤ y → xx_J G l M fr lo mc ms Post tgt L S A n k j) (kf : ¬ x ≤ y → xx_J G l M fr lo mc ms Post (pc + 3) L S A n k j) : xx_J G l M fr lo mc ms Post pc L (.int y :: .int x :: S) A n k j := by
  intro p e s m args below meth c ad0 n0 F ad H locs ls ⟨a1, a2, a3, a4, a5, a6, a7⟩
  exact lv_icmp_le F.1 F.2.1 hd ht (fun h => kt h p e s m args below meth c ad0 n0 F ad H locs ls ⟨a1, a2, a3, a4, a5, xx_t (xx_t a6), a7⟩) (fun h => kf h p e s m args below meth c ad0 n0 F ad H locs ls ⟨a1, a2, a3, a4, a5, xx_t (xx_t a6), a7⟩)
theorem J_goto {off : Int} {tgt : Nat} (hd : decode M.2.2.1 pc = .ok (.goto off, 3)) (ht : (pc : Int) + off = (tgt : Int)) (kk : xx_J G l M fr lo mc ms Post tgt L S A n k j) : xx_J G l M fr lo mc ms Post pc L S A n k j := by
  intro p e s m args below meth c ad0 n0 F ad H locs ls ⟨a1, a2, a3, a4, a5, a6, a7⟩
  exact lv_goto F.1 F.2.1 hd ht (kk p e s m args below meth c ad0 n0 F ad H locs ls ⟨a1, a2, a3, a4, a5, a6, a7⟩)
theorem J_tableIn {dflt lw hi : Int} {offs : Array Int} {len : Nat} {x : Int32} {off : Int} {tgt : Nat} (hd : decode M.2.2.1 pc = .ok (.tableswitch dflt lw hi offs, len)) (h1 : ¬ x.toInt < lw) (h2 : ¬ hi < x.toInt) (ho : offs[(x.toInt - lw).toNat]? = some off) (ht : (pc : Int) + off = (tgt : Int)) (kk : xx_J G l M fr lo mc ms Post tgt L S A n k j) : xx_J G l M fr lo mc ms Post pc L (.int x :: S) A n k j := by
  intro p e s m args below meth c ad0 n0 F ad H locs ls ⟨a1, a2, a3, a4, a5, a6, a7⟩
  exact lv_tableIn F.1 F.2.1 hd h1 h2 ho ht (kk p e s m args below meth c ad0 n0 F ad H locs ls ⟨a1, a2, a3, a4, a5, xx_t a6, a7⟩)
theorem J_tableOut {dflt lw hi : Int} {offs : Array Int} {len : Nat} {x : Int32} {tgt : Nat} (hd : decode M.2.2.1 pc = .ok (.tableswitch dflt lw hi offs, len)) (h : x.toInt < lw ∨ hi < x.toInt) (ht : (pc : Int) + dflt = (tgt : Int)) (kk : xx_J G l M fr lo mc ms Post tgt L S A n k j) : xx_J G l M fr lo mc ms Post pc L (.int x :: S) A n k j := by
  intro p e s m args below meth c ad0 n0 F ad H locs ls ⟨a1, a2, a3, a4, a5, a6, a7⟩
  exact lv_tableOut F.1 F.2.1 hd h ht (kk p e s m args below meth c ad0 n0 F ad H locs ls ⟨a1, a2, a3, a4, a5, xx_t a6, a7⟩)
theorem J_lookup {dflt : Int} {ps : Array (Int × Int)} {len : Nat} {x : Int32} {off : Int} {tgt : Nat} (hd : decode M.2.2.1 pc = .ok (.lookupswitch dflt ps, len)) (hp : (ps.toList.zip (ps.toList.drop 1)).all (fun (a, next) => a.1 < next.1) = true) (ho : Op.lookupswitch.offset ps.toList dflt x.toInt = off) (ht : (pc : Int) + off = (tgt : Int)) (kk : xx_J G l M fr lo mc ms Post tgt L S A n k j) : xx_J G l M fr lo mc ms Post pc L (.int x :: S) A n k j := by
  intro p e s m args below meth c ad0 n0 F ad H locs ls ⟨a1, a2, a3, a4, a5, a6, a7⟩
  exact lv_lookup F.1 F.2.1 hd hp ho ht (kk p e s m args below meth c ad0 n0 F ad H locs ls ⟨a1, a2, a3, a4, a5, xx_t a6, a7⟩)
theorem J_ldc2 {index : Nat} {v : Int64} (hd : decode M.2.2.1 pc = .ok (.ldc2_w index, 3)) (hw : Jvm.Cond.constantLong M.1 index v ∈ xx_T) (kk : xx_J G l M fr lo mc ms Post (pc + 3) L (.long v :: S) A n k j) : xx_J G l M fr lo mc ms Post pc L S A n k j := by
  intro p e s m args below meth c ad0 n0 F ad H locs ls ⟨a1, a2, a3, a4, a5, a6, a7⟩
  exact lv_ldc2 F.1 F.2.1 F.2.2.2.2.2.2.1 (F.2.2.2.2.2.2.2.1 _ hw) hd (kk p e s m args below meth c ad0 n0 F ad H locs ls ⟨a1, a2, a3, a4, a5, xx_c trivial a6, a7⟩)
theorem J_ldcw {index : Nat} {v : Int32} (hd : decode M.2.2.1 pc = .ok (.ldc_w index, 3)) (hw : Jvm.Cond.constant M.1 index v ∈ xx_T) (kk : xx_J G l M fr lo mc ms Post (pc + 3) L (.int v :: S) A n k j) : xx_J G l M fr lo mc ms Post pc L S A n k j := by
  intro p e s m args below meth c ad0 n0 F ad H locs ls ⟨a1, a2, a3, a4, a5, a6, a7⟩
  exact lv_ldcw F.1 F.2.1 F.2.2.2.2.2.2.1 (F.2.2.2.2.2.2.2.1 _ hw) hd (kk p e s m args below meth c ad0 n0 F ad H locs ls ⟨a1, a2, a3, a4, a5, xx_c trivial a6, a7⟩)
end XXC
