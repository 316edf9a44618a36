/-! THE TEXT OF told, READ: what the book holds -/
section XBR
variable {n : Nat} {k i j q s e t d p : Nat} {T : xS} {len : Nat} {G : xx_G}
/-- from k on stand these tokens -/
abbrev tkS (T : xS) (len k : Nat) (L : List (Nat × Nat)) : Prop := lxQ T len k L
theorem lxQ.hd {c : Nat × Nat} {L : List (Nat × Nat)} (h : lxQ T len k (c :: L)) : tkX T len k c := h 0 (Nat.succ_pos _)
theorem lxQ.tl {c : Nat × Nat} {L : List (Nat × Nat)} (h : lxQ T len k (c :: L)) : lxQ T len (k + 1) L := fun q hq => by
  have := h (q + 1) (Nat.succ_lt_succ hq)
  rw [show k + (q + 1) = k + 1 + q by omega] at this; exact this
theorem lxQ.l {L M : List (Nat × Nat)} (h : lxQ T len k (L ++ M)) : lxQ T len k L := fun q hq => by
  have := h q (by rw [List.length_append]; omega)
  rw [getD_app1 hq] at this; exact this
theorem lxQ.r {L M : List (Nat × Nat)} (h : lxQ T len k (L ++ M)) : lxQ T len (k + L.length) M := fun q hq => by
  have := h (L.length + q) (by rw [List.length_append]; omega)
  rw [getD_app2, ← Nat.add_assoc] at this; exact this
theorem lxQ.at {L : List (Nat × Nat)} (h : lxQ T len k L) : tkAt (scG T len) (tkN T len) k L := fun q hq => ⟨(h q hq).1, (h q hq).2.1⟩
theorem bok_ln {tk : Nat → Nat} {num : Nat → Int32} {f k2 : Nat} {its its2 : List (Nat × Nat)} {rs rs2 : RuL} (h37 : ¬ tk k = 37) (hl : linW tk num k = (true, k2, its2, rs2)) (h24 : tk k2 = 24) : bokW tk num (f + 1) k its rs = bokW tk num f (k2 + 1) (its ++ its2) (rs ++ rs2) := by
  show (if tk k = 37 then (true, k, its, rs) else if (linW tk num k).1 = true then (if tk (linW tk num k).2.1 = 24 then bokW tk num f ((linW tk num k).2.1 + 1) (its ++ (linW tk num k).2.2.1) (rs ++ (linW tk num k).2.2.2) else (false, (linW tk num k).2.1, its, rs)) else (false, (linW tk num k).2.1, its, rs)) = _
  rw [if_neg h37, hl, if_pos rfl, if_pos h24]
theorem ln_wrs {m v : Nat} (h : lxQ T len k [(0, 0), (35, m), (1, 0), (36, v), (24, 0)]) : linW (scG T len) (tkN T len) k = (true, k + 4, [(k + 1, 1), (k + 3, 3)], []) ∧ ¬ scG T len k = 37 ∧ scG T len (k + 4) = 24 := by
  have h0 : scG T len k = 0 := h.hd.1
  have h1 : scG T len (k + 1) = 35 := h.tl.hd.1
  have h2 : scG T len (k + 1 + 1) = 1 := h.tl.tl.hd.1
  have h3 : scG T len (k + 1 + 2) = 36 := h.tl.tl.tl.hd.1
  have h4 : scG T len (k + 4) = 24 := h.tl.tl.tl.tl.hd.1
  refine ⟨?_, by rw [h0]; omega, h4⟩
  unfold linW
  rw [if_pos h0]
  unfold wrsW
  rw [if_neg (fun z => z h1), if_neg (fun z => z h2), if_neg (fun z => z h3)]
theorem ln_pts {a b c : Nat} (h : lxQ T len k [(2, 0), (36, a), (36, b), (36, c), (24, 0)]) : linW (scG T len) (tkN T len) k = (true, k + 4, [(k + 1, 4), (k + 2, 5), (k + 3, 6)], []) ∧ ¬ scG T len k = 37 ∧ scG T len (k + 4) = 24 := by
  have h0 : scG T len k = 2 := h.hd.1
  have h1 : scG T len (k + 1) = 36 := h.tl.hd.1
  have h2 : scG T len (k + 1 + 1) = 36 := h.tl.tl.hd.1
  have h3 : scG T len (k + 1 + 2) = 36 := h.tl.tl.tl.hd.1
  have h4 : scG T len (k + 4) = 24 := h.tl.tl.tl.tl.hd.1
  refine ⟨?_, by rw [h0]; omega, h4⟩
  unfold linW
  rw [if_neg (by rw [h0]; omega), if_pos h0]
  unfold ptsW
  rw [if_neg (fun z => z h1), if_neg (fun z => z h2), if_neg (fun z => z h3)]
/-- the steps of a rule's test -/
def stpO : Option (Tr 4) → List (Int32 × Int32)
  | none => []
  | some t => trC 4 t
theorem ouc_v {o : Nat} (h3 : o < 3) {M : List (Nat × Nat)} (h : lxQ T len k (ouT o ++ M)) : oucW (scG T len) k = (nI o, k + (ouT o).length) := by
  unfold oucW
  rcases (show o = 0 ∨ o = 1 ∨ o = 2 by omega) with rfl | rfl | rfl
  · have h0 : scG T len k = 6 := h.hd.1
    have h1 : scG T len (k + 1) = 8 := h.tl.hd.1
    rw [if_neg (by rw [h0]; omega), if_pos h0, if_pos h1]; rfl
  · have h0 : scG T len k = 3 := h.hd.1
    rw [if_pos h0]; rfl
  · have h0 : scG T len k = 7 := h.hd.1
    have h1 : scG T len (k + 1) = 8 := h.tl.hd.1
    rw [if_neg (by rw [h0]; omega), if_neg (by rw [h0]; omega), if_pos h0, if_pos h1]; rfl
theorem ln_rul {o i : Nat} (h3 : o < 3) (h : lxQ T len k ((5, 0) :: (ouT o ++ (whT (tsV G i) ++ [(24, 0)])))) : linW (scG T len) (tkN T len) k = (true, k + 1 + (ouT o).length + (whT (tsV G i)).length, [(k, 2)], [(nI o, stpO (tsV G i))]) ∧ ¬ scG T len k = 37 ∧ scG T len (k + 1 + (ouT o).length + (whT (tsV G i)).length) = 24 := by
  have h0 : scG T len k = 5 := h.hd.1
  have ho := ouc_v h3 h.tl
  have hr := h.tl.r
  have h24 : scG T len (k + 1 + (ouT o).length + (whT (tsV G i)).length) = 24 := hr.r.hd.1
  refine ⟨?_, by rw [h0]; omega, h24⟩
  unfold linW
  rw [if_neg (by rw [h0]; omega), if_neg (by rw [h0]; omega), if_pos h0]
  unfold rulW
  rw [ho]
  have hm1 : ¬ nI o = -1 := by
    rcases (show o = 0 ∨ o = 1 ∨ o = 2 by omega) with rfl | rfl | rfl <;> decide
  rw [if_neg hm1, Nat.add_sub_cancel]
  cases hw : tsV G i with
  | none =>
    rw [hw] at h24
    have h24 : scG T len (k + 1 + (ouT o).length) = 24 := h24
    rw [if_neg (by show ¬ scG T len (k + 1 + (ouT o).length) = 9; rw [h24]; omega)]
    rfl
  | some t =>
    rw [hw] at hr h24
    have h9 : scG T len (k + 1 + (ouT o).length) = 9 := hr.hd.1
    rw [if_pos (by show scG T len (k + 1 + (ouT o).length) = 9; exact h9)]
    have ht := tsV_k hw
    have hq : lxQ T len (k + 1 + (ouT o).length + 1) (tkL 4 t) := hr.tl.l
    have e24 : scG T len (k + 1 + (ouT o).length + 1 + (tkL 4 t).length) = 24 := hr.tl.r.hd.1
    rw [ht] at hq e24
    have z := par_rule hq.at (nTS_c e24 ⟨rfl, rfl, rfl, rfl⟩)
    rw [← ht] at z
    show (if (pT (scG T len) (tkN T len) (k + 1 + (ouT o).length + 1)).1 = true then _ else _) = _
    rw [z, if_pos rfl]
    show (true, k + 1 + (ouT o).length + 1 + (tkL 4 t).length, _, _) = (true, k + 1 + (ouT o).length + ((tkL 4 t).length + 1), _, _)
    rw [show k + 1 + (ouT o).length + 1 + (tkL 4 t).length = k + 1 + (ouT o).length + ((tkL 4 t).length + 1) by omega]
    rfl
/-- two names that differ -/
theorem sam_n {u v a b : Nat} (h1 : tkX T len u (35, a)) (h2 : tkX T len v (35, b)) (ha : a < 6) (hb : b < 6) (hab : ¬ a = b) : samB T len u v = false := by
  obtain ⟨a1, -, a2⟩ := h1.2.2 rfl
  obtain ⟨b1, -, b2⟩ := h2.2.2 rfl
  cases hs : samB T len u v with
  | false => rfl
  | true =>
    exfalso
    obtain ⟨g1, g2⟩ := samB_i.mp hs
    rw [a1, Nat.add_sub_cancel_left] at g2
    have g3 : (decide (bat T len (scS T len u) = bat T len (scS T len v)) && (decide (bat T len (scS T len u + 1) = bat T len (scS T len v + 1)) && true)) = true := g2
    rw [Bool.and_eq_true, Bool.and_eq_true, decide_eq_true_eq, decide_eq_true_eq] at g3
    have g4 := g3.2.1
    rw [a2, b2, i_eq, i_n (by omega), i_n (by omega)] at g4
    omega
/-- behind so many wrestlers and rules -/
def bkI (G : xx_G) (T : xS) (len i j k : Nat) : Prop := ∃ (f : Nat) (its : List (Nat × Nat)) (rs : RuL) (wl : List (Nat × Int32)) (nm : Nat) (wo : Nat → Int32), 401 ≤ f + i + j + 1 ∧ bokW (scG T len) (tkN T len) 401 0 [] [] = bokW (scG T len) (tkN T len) f k its rs ∧ chkT T len its = (wl, nm, wo, j, (0, -1)) ∧ wl.length = i ∧ (∀ q, q < i → (wl.getD q (0, 0)).2 = nI (stV G q) ∧ tkX T len (wl.getD q (0, 0)).1 (35, q)) ∧ (∀ q, q < 3 → wo q = nI (woV G q)) ∧ rs = (List.range j).map (fun r => (nI (outV G r), stpO (tsV G r)))
theorem chk_pts (same : Nat → Nat → Bool) (num pos : Nat → Int32) (a b c : Nat) : chkL same num pos [(a, 4), (b, 5), (c, 6)] = ([], 0, upd (upd (upd (fun q => if q = 1 then 1 else 2) 0 (num a)) 1 (num b)) 2 (num c), 0, noteC (noteC (noteC (0, -1) (if num a < 0 ∨ 9 < num a then 5 else 0) (pos a)) (if num b < 0 ∨ 9 < num b then 5 else 0) (pos b)) (if num c < 0 ∨ 9 < num c then 5 else 0) (pos c)) := rfl
theorem chk_wrs (same : Nat → Nat → Bool) (num pos : Nat → Int32) (a b : Nat) (wl : List (Nat × Int32)) (nm : Nat) (wo : Nat → Int32) (r : Nat) (E : Int32 × Int32) : List.foldl (chkS same num pos) (wl, nm, wo, r, E) [(a, 1), (b, 3)] = (wl ++ [(a, num b)], a, wo, r, noteC (noteC E (if dupK same wl a = true then 2 else if 12 ≤ wl.length then 4 else 0) (pos a)) (if num b < 1 ∨ 999 < num b then 5 else 0) (pos b)) := rfl
theorem chk_rul (same : Nat → Nat → Bool) (num pos : Nat → Int32) (a : Nat) (wl : List (Nat × Int32)) (nm : Nat) (wo : Nat → Int32) (r : Nat) (E : Int32 × Int32) : List.foldl (chkS same num pos) (wl, nm, wo, r, E) [(a, 2)] = (wl, nm, wo, r + 1, noteC E (if 16 ≤ r then 4 else 0) (pos a)) := rfl
theorem bk_0 (h : lxQ T len 0 (ptT G)) : bkI G T len 0 0 (ptT G).length := by
  by_cases c : ptB G
  · have eP : ptT G = [(2, 0), (36, ptV G 0), (36, ptV G 1), (36, ptV G 2), (24, 0)] := if_pos c
    rw [eP] at h ⊢
    obtain ⟨l1, l2, l3⟩ := ln_pts h
    have n1 : tkN T len 1 = nI (ptV G 0) := h.tl.hd.2.1 rfl
    have n2 : tkN T len 2 = nI (ptV G 1) := h.tl.tl.hd.2.1 rfl
    have n3 : tkN T len 3 = nI (ptV G 2) := h.tl.tl.tl.hd.2.1 rfl
    have b0 : ∀ v, v < 10 → ¬ (nI v < 0 ∨ 9 < nI v) := by decide
    refine ⟨400, [] ++ [(0 + 1, 4), (0 + 2, 5), (0 + 3, 6)], [] ++ [], [], 0, upd (upd (upd (fun q => if q = 1 then 1 else 2) 0 (nI (ptV G 0))) 1 (nI (ptV G 1))) 2 (nI (ptV G 2)), by omega, ?_, ?_, rfl, (fun q hq => absurd hq (Nat.not_lt_zero q)), ?_, rfl⟩
    · exact bok_ln l2 l1 l3
    · rw [List.nil_append]
      show chkL (samB T len) (tkN T len) (posT T len) [(1, 4), (2, 5), (3, 6)] = _
      rw [chk_pts]
      rw [n1, n2, n3, if_neg (b0 _ ptV_lt), if_neg (b0 _ ptV_lt), if_neg (b0 _ ptV_lt), noteC_0, noteC_0, noteC_0]
    · intro q hq
      unfold woV
      rw [if_pos c]
      rcases (show q = 0 ∨ q = 1 ∨ q = 2 by omega) with rfl | rfl | rfl <;> simp [upd]
  · have eP : ptT G = [] := if_neg c
    rw [eP]
    refine ⟨401, [], [], [], 0, fun q => if q = 1 then 1 else 2, by omega, rfl, rfl, rfl, (fun q hq => absurd hq (Nat.not_lt_zero q)), ?_, rfl⟩
    intro q hq
    unfold woV
    rw [if_neg c]
    rcases (show q = 0 ∨ q = 1 ∨ q = 2 by omega) with rfl | rfl | rfl <;> rfl
theorem bk_w {i : Nat} (hi : i < 6) (hb : bkI G T len i 0 k) (h : lxQ T len k [(0, 0), (35, i), (1, 0), (36, stV G i), (24, 0)]) : bkI G T len (i + 1) 0 (k + 5) := by
  obtain ⟨f, its, rs, wl, nm, wo, h1, h2, h3, h4, h5, h6, h7⟩ := hb
  obtain ⟨l1, l2, l3⟩ := ln_wrs h
  have x1 : tkX T len (k + 1) (35, i) := h.tl.hd
  have n3 : tkN T len (k + 3) = nI (stV G i) := h.tl.tl.tl.hd.2.1 rfl
  obtain ⟨f', rfl⟩ : ∃ f', f = f' + 1 := ⟨f - 1, by omega⟩
  have s1 := stV_lt (G := G) (i := i)
  have s0 : 1 ≤ stV G i := Nat.le_add_right _ _
  have hdup : dupK (samB T len) wl (k + 1) = false := by
    unfold dupK
    rw [List.any_eq_false]
    intro c hc
    obtain ⟨q, hq, e⟩ := List.getElem_of_mem (List.mem_of_mem_take hc)
    have z := (h5 q (by omega)).2
    rw [List.getD_eq_getElem?_getD, List.getElem?_eq_getElem hq] at z
    have z : tkX T len (wl[q]).1 (35, q) := z
    rw [e] at z
    rw [sam_n z x1 (by omega) hi (by omega)]
    decide
  refine ⟨f', its ++ [(k + 1, 1), (k + 3, 3)], rs ++ [], wl ++ [(k + 1, nI (stV G i))], k + 1, wo, by omega, h2.trans (bok_ln l2 l1 l3), ?_, ?_, ?_, h6, ?_⟩
  · rw [chkT_app, h3]
    rw [chk_wrs]
    rw [hdup, if_neg (by decide), if_neg (by omega), noteC_0, n3, if_neg (fun z => by rw [i_lt, i_lt, i_n (by omega), i_1, i_999] at z; omega), noteC_0]
  · rw [List.length_append, h4]; rfl
  · intro q hq
    by_cases c : q < i
    · rw [getD_app1 (by omega)]; exact h5 q c
    · have e1 : q = wl.length + 0 := by omega
      rw [e1, getD_app2]
      have e2 : wl.length + 0 = i := by omega
      rw [e2]
      exact ⟨rfl, x1⟩
  · rw [List.append_nil]; exact h7
theorem outV_lt {i : Nat} : outV G i < 3 := blw_lt (by omega)
theorem bk_r {m j : Nat} (hj : j < 4) (hm : m ≤ 6) (hb : bkI G T len m j k) (h : lxQ T len k ((5, 0) :: (ouT (outV G j) ++ (whT (tsV G j) ++ [(24, 0)])))) : bkI G T len m (j + 1) (k + ((5, 0) :: (ouT (outV G j) ++ (whT (tsV G j) ++ [(24, 0)]))).length) := by
  obtain ⟨f, its, rs, wl, nm, wo, h1, h2, h3, h4, h5, h6, h7⟩ := hb
  obtain ⟨l1, l2, l3⟩ := ln_rul outV_lt h
  obtain ⟨f', rfl⟩ : ∃ f', f = f' + 1 := ⟨f - 1, by omega⟩
  have ek : k + ((5, 0) :: (ouT (outV G j) ++ (whT (tsV G j) ++ [(24, 0)]))).length = k + 1 + (ouT (outV G j)).length + (whT (tsV G j)).length + 1 := by
    simp only [List.length_cons, List.length_append, List.length_nil]; omega
  rw [ek]
  refine ⟨f', its ++ [(k, 2)], rs ++ [(nI (outV G j), stpO (tsV G j))], wl, nm, wo, by omega, h2.trans (bok_ln l2 l1 l3), ?_, h4, h5, h6, ?_⟩
  · rw [chkT_app, h3]
    rw [chk_rul, if_neg (by omega), noteC_0]
  · rw [List.range_succ, List.map_append, h7]; rfl
/-- all of it -/
theorem bk_all (h : lxQ T len 0 (rlT G (nrV G))) : bkI G T len (nwV G) (nrV G) (rlT G (nrV G)).length := by
  have hw : ∀ i, i ≤ 6 → lxQ T len 0 (wrT G i) → bkI G T len i 0 (wrT G i).length := by
    intro i
    induction i with
    | zero => intro _ h; exact bk_0 h
    | succ i ih =>
      intro hi h
      have h : lxQ T len 0 (wrT G i ++ [(0, 0), (35, i), (1, 0), (36, stV G i), (24, 0)]) := h
      have hr := h.r
      rw [Nat.zero_add] at hr
      have := bk_w (by omega) (ih (by omega) h.l) hr
      show bkI G T len (i + 1) 0 (wrT G i ++ _).length
      rw [List.length_append]; exact this
  have hr : ∀ j, j ≤ 4 → lxQ T len 0 (rlT G j) → bkI G T len (nwV G) j (rlT G j).length := by
    intro j
    induction j with
    | zero => intro _ h; exact hw _ nwV_lt.2 h
    | succ j ih =>
      intro hj h
      have h : lxQ T len 0 (rlT G j ++ ((5, 0) :: (ouT (outV G j) ++ (whT (tsV G j) ++ [(24, 0)])))) := h
      have hr := h.r
      rw [Nat.zero_add] at hr
      have := bk_r (by omega) nwV_lt.2 (ih (by omega) h.l) hr
      show bkI G T len (nwV G) (j + 1) (rlT G j ++ _).length
      rw [List.length_append]; exact this
  exact hr _ nrV_lt h
/-- the rules of a told tournament -/
abbrev rsG (G : xx_G) : RuL := (List.range (nrV G)).map (fun r => (nI (outV G r), stpO (tsV G r)))
/-- the tape holds the text -/
def tpH (G : xx_G) (T : xS) (len : Nat) : Prop := len = (rlX G (nrV G)).length ∧ ∀ q, q < len → T.2 1 q = (rlX G (nrV G)).getD q 0
/-- read: no error; what is told -/
theorem told_rd (h : tpH G T len) : ∃ (its : List (Nat × Nat)) (wl : List (Nat × Int32)) (nm : Nat) (wo : Nat → Int32), bokW (scG T len) (tkN T len) 401 0 [] [] = (true, (rlT G (nrV G)).length, its, rsG G) ∧ chkT T len its = (wl, nm, wo, nrV G, (0, -1)) ∧ wl.length = nwV G ∧ (∀ q, q < nwV G → (wl.getD q (0, 0)).2 = nI (stV G q)) ∧ ∀ q, q < 3 → wo q = nI (woV G q) := by
  have hl := rlT_len (G := G) (nrV G)
  have h4 := nrV_lt (G := G)
  have hs : stX T len 0 (rlX G (nrV G)) := ⟨by have := h.1; omega, fun q hq => by
    rw [Nat.zero_add]; unfold bat; rw [if_pos (by have := h.1; omega)]; exact h.2 q (by have := h.1; omega)⟩
  obtain ⟨g1, g2⟩ := lx_rl (nrV G) T len 0 0 hs trivial ⟨Nat.le_refl _, Nat.zero_le _, fun q h1 h2 => absurd h2 (Nat.not_lt_zero q)⟩ (by omega)
  rw [Nat.zero_add, Nat.zero_add, ← h.1] at g2
  have hend := g2.fin (by omega)
  obtain ⟨f, its, rs, wl, nm, wo, h1, h2, h3, h5, h6, h7, h8⟩ := bk_all g1
  have h9 := nwV_lt (G := G)
  obtain ⟨f', rfl⟩ : ∃ f', f = f' + 1 := ⟨f - 1, by omega⟩
  refine ⟨its, wl, nm, wo, ?_, h3, h5, fun q hq => (h6 q hq).1, h7⟩
  rw [h2]
  show (if scG T len (rlT G (nrV G)).length = 37 then (true, (rlT G (nrV G)).length, its, rs) else _) = _
  rw [if_pos hend, h8]
end XBR
