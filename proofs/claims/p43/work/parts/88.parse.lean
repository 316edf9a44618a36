/-! A tree's tokens, parsed: its steps -/
section XPS
variable {n : Nat} {k j i q s e t d : Nat}
def wK (kd : Nat) : Nat := if kd = 2 then 2 else if kd = 3 then 1 else if kd = 4 then 11 else if kd = 5 then 13 else if kd = 6 then 14 else 4
/-- a tree's tokens: kind, number -/
def tkL : (f : Nat) → Tr f → List (Nat × Nat)
  | 0, _ => []
  | f + 1, tr => if tr.1.1 = 0 then [(36, tr.1.2)] else if tr.1.1 = 1 then [(10, 0)] else if tr.1.1 < 8 then [(wK tr.1.1, 0), (if tr.1.2 = 0 then 6 else 7, 0)] else if tr.1.1 = 8 then (27, 0) :: (20, 0) :: (tkL f tr.2.1 ++ [(21, 0)]) else if tr.1.1 < 13 then (20, 0) :: (tkL f tr.2.1 ++ (21, 0) :: (17 + tr.1.1, 0) :: (20, 0) :: (tkL f tr.2.2 ++ [(21, 0)])) else if tr.1.1 < 15 then (5 + tr.1.1, 0) :: (20, 0) :: (tkL f tr.2.1 ++ (25, 0) :: (tkL f tr.2.2 ++ [(21, 0)])) else if tr.1.1 < 25 then tkL f tr.2.1 ++ (10 + tr.1.1, 0) :: tkL f tr.2.2 else if tr.1.1 = 25 then [(12, 0)] else if tr.1.1 = 26 then (15, 0) :: (22, 0) :: (tkL f tr.2.1 ++ [(23, 0)]) else (22, 0) :: (tkL f tr.2.1 ++ (23, 0) :: (tr.1.1 - 11, 0) :: (22, 0) :: (tkL f tr.2.2 ++ [(23, 0)]))
variable {tk : Nat → Nat} {num : Nat → Int32}
/-- from k on stand these tokens -/
def tkAt (tk : Nat → Nat) (num : Nat → Int32) (k : Nat) (L : List (Nat × Nat)) : Prop := ∀ q, q < L.length → tk (k + q) = (L.getD q (0, 0)).1 ∧ ((L.getD q (0, 0)).1 = 36 → num (k + q) = nI (L.getD q (0, 0)).2)
theorem tkAt.hd {c : Nat × Nat} {L : List (Nat × Nat)} (h : tkAt tk num k (c :: L)) : tk k = c.1 ∧ (c.1 = 36 → num k = nI c.2) := h 0 (Nat.succ_pos _)
theorem tkAt.tl {c : Nat × Nat} {L : List (Nat × Nat)} (h : tkAt tk num k (c :: L)) : tkAt tk num (k + 1) L := fun q hq => by
  have z := h (q + 1) (Nat.succ_lt_succ hq)
  rw [show k + 1 + q = k + (q + 1) from by omega]
  exact z
theorem tkAt.l {L M : List (Nat × Nat)} (h : tkAt tk num k (L ++ M)) : tkAt tk num k L := fun q hq => by
  have z := h q (by rw [List.length_append]; omega)
  simp only [List.getD_eq_getElem?_getD, List.getElem?_append_left hq] at z ⊢
  exact z
theorem tkAt.r {L M : List (Nat × Nat)} (h : tkAt tk num k (L ++ M)) : tkAt tk num (k + L.length) M := fun q hq => by
  have z := h (L.length + q) (by rw [List.length_append]; omega)
  simp only [List.getD_eq_getElem?_getD, List.getElem?_append_right (Nat.le_add_right L.length q), Nat.add_sub_cancel_left] at z ⊢
  rw [Nat.add_assoc]
  exact z
theorem bnd_k {r : Res} {f : Nat → Res} {k' k2 : Nat} {em em2 : List (Int32 × Int32)} (h : r = (true, k', em)) (h2 : f k' = (true, k2, em2)) : bnd r f = (true, k2, em ++ em2) := by
  subst h
  unfold bnd
  rw [if_pos rfl, h2]
theorem chW_1 {op : Nat → Int32} {p : Nat → Res} {k' : Nat} {em : List (Int32 × Int32)} (h : p k = (true, k', em)) (h0 : op (tk k') = 0) : chW tk op p k = (true, k', em) := by
  unfold chW
  rw [bnd_k (k2 := k') (em2 := []) h (by show lpW tk op p 401 k' = _; unfold lpW; rw [if_pos h0]), List.append_nil]
theorem chW_2 {op : Nat → Int32} {p : Nat → Res} {k1 k2 : Nat} {e1 e2 : List (Int32 × Int32)} (h : p k = (true, k1, e1)) (h1 : ¬ op (tk k1) = 0) (h2 : p (k1 + 1) = (true, k2, e2)) (h0 : op (tk k2) = 0) : chW tk op p k = (true, k2, e1 ++ (e2 ++ [(op (tk k1), 0)])) := by
  unfold chW
  refine bnd_k h ?_
  show lpW tk op p 401 k1 = _
  unfold lpW
  rw [if_neg h1]
  refine bnd_k h2 ?_
  have hl : lpW tk op p 400 k2 = (true, k2, []) := by unfold lpW; rw [if_pos h0]
  exact bnd_k (r := emt (op (tk k1)) 0 k2) (em := [(op (tk k1), 0)]) rfl hl
theorem dpt_k {v : Nat} (hd : d < 8) (h : tk k = v) : dpt tk d v k = (true, k + 1, []) := if_pos ⟨hd, h⟩
theorem eat_k {v : Nat} (h : tk k = v) : eat tk v k = (true, k + 1, []) := if_pos h
theorem parW_t {o c k' : Nat} {ps : Nat → Res} {em : List (Int32 × Int32)} (hd : d < 8) (h1 : tk k = o) (h2 : ps (k + 1) = (true, k', em)) (h3 : tk k' = c) : parW tk d o c ps k = (true, k' + 1, em) := by
  unfold parW
  have z := bnd_k (dpt_k hd h1) (f := fun k1 => bnd (ps k1) (eat tk c)) (bnd_k h2 (eat_k h3))
  rw [z, List.append_nil, List.nil_append]
/-- no sign of a sum, none of a product -/
abbrev nSP (tk : Nat → Nat) (k : Nat) : Prop := opS (tk k) = 0 ∧ opP (tk k) = 0
theorem nSP_c {v : Nat} (h : tk k = v) (h2 : opS v = 0 ∧ opP v = 0) : nSP tk k := by unfold nSP; rw [h]; exact h2
theorem sumW_1 {pv : Nat → Res} {k' : Nat} {em : List (Int32 × Int32)} (h : pv k = (true, k', em)) (h0 : nSP tk k') : sumW tk pv k = (true, k', em) := chW_1 (chW_1 h h0.2) h0.1
end XPS
