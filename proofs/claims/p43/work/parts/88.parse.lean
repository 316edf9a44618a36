/-! A tree's tokens, parsed: its steps -/
section XPS
variable {n : Nat} {k j i q s e t d : Nat}
def wK (kd : Nat) : Nat := if kd = 2 then 2 else if kd = 3 then 1 else if kd = 4 then 11 else if kd = 5 then 13 else if kd = 6 then 14 else 4
/-- a tree's tokens: kind, number -/
def tkL : (f : Nat) → Tr f → List (Nat × Nat)
  | 0, _ => []
  | f + 1, tr => if tr.1.1 = 0 then [(36, tr.1.2)] else if tr.1.1 = 1 then [(10, 0)] else if tr.1.1 < 8 then [(wK tr.1.1, 0), (if tr.1.2 = 0 then 6 else 7, 0)] else if tr.1.1 = 8 then (27, 0) :: (20, 0) :: (tkL f tr.2.1 ++ [(21, 0)]) else if tr.1.1 < 13 then (20, 0) :: (tkL f tr.2.1 ++ (21, 0) :: (17 + tr.1.1, 0) :: (20, 0) :: (tkL f tr.2.2 ++ [(21, 0)])) else if tr.1.1 < 15 then (5 + tr.1.1, 0) :: (20, 0) :: (tkL f tr.2.1 ++ (25, 0) :: (tkL f tr.2.2 ++ [(21, 0)])) else if tr.1.1 < 25 then tkL f tr.2.1 ++ (10 + tr.1.1, 0) :: tkL f tr.2.2 else if tr.1.1 = 25 then [(12, 0)] else if tr.1.1 = 26 then (15, 0) :: (22, 0) :: (tkL f tr.2.1 ++ [(23, 0)]) else (22, 0) :: (tkL f tr.2.1 ++ (23, 0) :: (tr.1.1 - 11, 0) :: (22, 0) :: (tkL f tr.2.2 ++ [(23, 0)]))
variable {tk : Nat → Nat} {num : Nat → Int32}
/-- from k on stand these tokens -/
def tkAt (tk : Nat → Nat) (num : Nat → Int32) (k : Nat) (L : List (Nat × Nat)) : Prop := ∀ q, q < L.length → tk (k + q) = (L.getD q (0, 0)).1 ∧ ((L.getD q (0, 0)).1 = 36 → num (k + q) = nI (L.getD q (0, 0)).2)
theorem tkAt.hd {c : Nat × Nat} {L : List (Nat × Nat)} (h : tkAt tk num k (c :: L)) : tk k = c.1 ∧ (c.1 = 36 → num k = nI c.2) := h 0 (Nat.succ_pos _)
theorem tkAt.tl {c : Nat × Nat} {L : List (Nat × Nat)} (h : tkAt tk num k (c :: L)) : tkAt tk num (k + 1) L := fun q hq => by
  have z := h (q + 1) (Nat.succ_lt_succ hq)
  rw [show k + 1 + q = k + (q + 1) from by omega]
  exact z
theorem tkAt.l {L M : List (Nat × Nat)} (h : tkAt tk num k (L ++ M)) : tkAt tk num k L := fun q hq => by
  have z := h q (by rw [List.length_append]; omega)
  simp only [List.getD_eq_getElem?_getD, List.getElem?_append_left hq] at z ⊢
  exact z
theorem tkAt.r {L M : List (Nat × Nat)} (h : tkAt tk num k (L ++ M)) : tkAt tk num (k + L.length) M := fun q hq => by
  have z := h (L.length + q) (by rw [List.length_append]; omega)
  simp only [List.getD_eq_getElem?_getD, List.getElem?_append_right (Nat.le_add_right L.length q), Nat.add_sub_cancel_left] at z ⊢
  rw [Nat.add_assoc]
  exact z
theorem bnd_k {r : Res} {f : Nat → Res} {k' k2 : Nat} {em em2 : List (Int32 × Int32)} (h : r = (true, k', em)) (h2 : f k' = (true, k2, em2)) : bnd r f = (true, k2, em ++ em2) := by
  subst h
  unfold bnd
  rw [if_pos rfl, h2]
theorem chW_1 {op : Nat → Int32} {p : Nat → Res} {k' : Nat} {em : List (Int32 × Int32)} (h : p k = (true, k', em)) (h0 : op (tk k') = 0) : chW tk op p k = (true, k', em) := by
  unfold chW
  rw [bnd_k (k2 := k') (em2 := []) h (by show lpW tk op p 401 k' = _; unfold lpW; rw [if_pos h0]), List.append_nil]
theorem chW_2 {op : Nat → Int32} {p : Nat → Res} {k1 k2 : Nat} {e1 e2 : List (Int32 × Int32)} (h : p k = (true, k1, e1)) (h1 : ¬ op (tk k1) = 0) (h2 : p (k1 + 1) = (true, k2, e2)) (h0 : op (tk k2) = 0) : chW tk op p k = (true, k2, e1 ++ (e2 ++ [(op (tk k1), 0)])) := by
  unfold chW
  refine bnd_k h ?_
  show lpW tk op p 401 k1 = _
  unfold lpW
  rw [if_neg h1]
  refine bnd_k h2 ?_
  have hl : lpW tk op p 400 k2 = (true, k2, []) := by unfold lpW; rw [if_pos h0]
  exact bnd_k (r := emt (op (tk k1)) 0 k2) (em := [(op (tk k1), 0)]) rfl hl
theorem dpt_k {v : Nat} (hd : d < 8) (h : tk k = v) : dpt tk d v k = (true, k + 1, []) := if_pos ⟨hd, h⟩
theorem eat_k {v : Nat} (h : tk k = v) : eat tk v k = (true, k + 1, []) := if_pos h
theorem parW_t {o c k' : Nat} {ps : Nat → Res} {em : List (Int32 × Int32)} (hd : d < 8) (h1 : tk k = o) (h2 : ps (k + 1) = (true, k', em)) (h3 : tk k' = c) : parW tk d o c ps k = (true, k' + 1, em) := by
  unfold parW
  have z := bnd_k (dpt_k hd h1) (f := fun k1 => bnd (ps k1) (eat tk c)) (bnd_k h2 (eat_k h3))
  rw [z, List.append_nil, List.nil_append]
/-- no sign of a sum, none of a product -/
abbrev nSP (tk : Nat → Nat) (k : Nat) : Prop := opS (tk k) = 0 ∧ opP (tk k) = 0
theorem nSP_c {v : Nat} (h : tk k = v) (h2 : opS v = 0 ∧ opP v = 0) : nSP tk k := by unfold nSP; rw [h]; exact h2
theorem sumW_1 {pv : Nat → Res} {k' : Nat} {em : List (Int32 × Int32)} (h : pv k = (true, k', em)) (h0 : nSP tk k') : sumW tk pv k = (true, k', em) := chW_1 (chW_1 h h0.2) h0.1
/-- nothing but sums -/
def trS : (f : Nat) → Tr f → Prop
  | 0, _ => True
  | f + 1, tr => tr.1.1 < 15 ∧ (hasA tr.1.1 → trS f tr.2.1) ∧ (hasB tr.1.1 → trS f tr.2.2)
theorem val_par {d k' : Nat} {pv ps : Nat → Res} {em : List (Int32 × Int32)} (hd : d < 8) (h1 : tk k = 20) (h2 : ps (k + 1) = (true, k', em)) (h3 : tk k' = 21) : valW tk num d pv ps k = (true, k' + 1, em) := by
  unfold valW
  rw [if_neg (by omega), if_neg (by omega), if_neg (by omega), if_pos h1]
  exact parW_t hd h1 h2 h3
theorem val_leaf {f kd nu d : Nat} {ta tb : Tr f} {pv ps : Nat → Res} (h8 : kd < 8) (hn : ¬ kd = 0 → nu < 2) (h : tkAt tk num k (tkL (f + 1) ((kd, nu), (ta, tb)))) : valW tk num d pv ps k = (true, k + (tkL (f + 1) ((kd, nu), (ta, tb))).length, trC (f + 1) ((kd, nu), (ta, tb))) := by
  have eL : tkL (f + 1) ((kd, nu), (ta, tb)) = if kd = 0 then [(36, nu)] else if kd = 1 then [(10, 0)] else [(wK kd, 0), (if nu = 0 then 6 else 7, 0)] := by
    show (if kd = 0 then [(36, nu)] else if kd = 1 then [(10, 0)] else if kd < 8 then [(wK kd, 0), (if nu = 0 then 6 else 7, 0)] else _) = _
    rw [if_pos h8]
  have eC : trC (f + 1) ((kd, nu), (ta, tb)) = if kd = 0 then [(1, nI nu)] else if kd = 1 then [(2, 0)] else [(if nu = 0 then 3 else 4, nI (qK kd))] := by
    show (if kd = 0 then [(1, nI nu)] else if kd = 1 then [(2, 0)] else if kd < 8 then [(if nu = 0 then 3 else 4, nI (qK kd))] else _) = _
    rw [if_pos h8]
  rw [eL] at h ⊢
  rw [eC]
  unfold valW
  by_cases c0 : kd = 0
  · rw [if_pos c0] at h ⊢; rw [if_pos c0]
    obtain ⟨h1, h2⟩ := h.hd
    have h1 : tk k = 36 := h1
    have h2 : num k = nI nu := h2 rfl
    rw [if_pos h1, h2]; rfl
  rw [if_neg c0] at h ⊢; rw [if_neg c0]
  by_cases c1 : kd = 1
  · rw [if_pos c1] at h ⊢; rw [if_pos c1]
    have h1 : tk k = 10 := h.hd.1
    rw [if_neg (by omega), if_pos h1]; rfl
  rw [if_neg c1] at h ⊢; rw [if_neg c1]
  have h1 : tk k = wK kd := h.hd.1
  have h2 : tk (k + 1) = if nu = 0 then 6 else 7 := h.tl.hd.1
  have hw : ¬ wK kd = 36 ∧ ¬ wK kd = 10 ∧ ¬ wK kd = 27 ∧ ¬ wK kd = 20 ∧ ¬ (wK kd = 18 ∨ wK kd = 19) ∧ ¬ cntT (wK kd) = 10 ∧ cntT (wK kd) = nI (qK kd) := by
    rcases (show kd = 2 ∨ kd = 3 ∨ kd = 4 ∨ kd = 5 ∨ kd = 6 ∨ kd = 7 by omega) with rfl | rfl | rfl | rfl | rfl | rfl <;> decide
  obtain ⟨w1, w2, w3, w4, w5, w6, w7⟩ := hw
  rw [h1, if_neg w1, if_neg w2, if_neg w3, if_neg w4, if_neg w5, if_neg w6, w7]
  unfold sidW
  rw [h2]
  by_cases cn : nu = 0
  · rw [if_pos cn, if_pos cn, if_pos rfl]; rfl
  · rw [if_neg cn, if_neg cn, if_neg (by decide), if_pos rfl]; rfl
theorem pV_leaf {f kd nu : Nat} {ta tb : Tr f} (H : Nat) (h8 : kd < 8) (hn : ¬ kd = 0 → nu < 2) (h : tkAt tk num k (tkL (f + 1) ((kd, nu), (ta, tb)))) : pV tk num H k = (true, k + (tkL (f + 1) ((kd, nu), (ta, tb))).length, trC (f + 1) ((kd, nu), (ta, tb))) := by
  cases H with
  | zero => exact val_leaf h8 hn h
  | succ H => exact val_leaf h8 hn h
/-- a value in brackets -/
theorem pV_par {H k' : Nat} {em : List (Int32 × Int32)} (h8 : H < 8) (h1 : tk k = 20) (h2 : sumW tk (pV tk num H) (k + 1) = (true, k', em)) (h3 : tk k' = 21) : pV tk num (H + 1) k = (true, k' + 1, em) :=
  val_par (pv := pV tk num H) (by omega) h1 h2 h3
/-- a sum's tokens, parsed -/
theorem par_sum : ∀ (f : Nat) (tr : Tr (f + 1)) (H k : Nat), trK (f + 1) tr → trW (f + 1) tr → trS (f + 1) tr → H ≤ 8 → 2 * f ≤ H → tkAt tk num k (tkL (f + 1) tr) → nSP tk (k + (tkL (f + 1) tr).length) → sumW tk (pV tk num H) k = (true, k + (tkL (f + 1) tr).length, trC (f + 1) tr) := by
  intro f
  induction f with
  | zero =>
    intro tr H k hK hW hS hH hf hT hN
    obtain ⟨⟨kd, nu⟩, ta, tb⟩ := tr
    have hk3 : ¬ kd = 0 → nu < 2 := hK.2.2.1
    have h15 : kd < 15 := hS.1
    have h8 : kd < 8 := Nat.not_le.mp (fun z => hW.1 ⟨z, by show ¬ kd = 25; omega⟩)
    exact sumW_1 (pV_leaf H h8 hk3 hT) hN
  | succ f ih =>
    intro tr H k hK hW hS hH hf hT hN
    obtain ⟨⟨kd, nu⟩, ta, tb⟩ := tr
    have hk3 : ¬ kd = 0 → nu < 2 := hK.2.2.1
    have h15 : kd < 15 := hS.1
    by_cases h8 : kd < 8
    · exact sumW_1 (pV_leaf H h8 hk3 hT) hN
    have ha : hasA kd := ⟨by omega, by omega⟩
    have ka : trK (f + 1) ta := hK.2.2.2.1 ha
    have wa : trW (f + 1) ta := hW.1 ha
    have sa : trS (f + 1) ta := hS.2.1 ha
    have eC : trC (f + 2) ((kd, nu), (ta, tb)) = if kd = 8 then trC (f + 1) ta ++ [(6, 0)] else trC (f + 1) ta ++ trC (f + 1) tb ++ [(nI (opK kd), 0)] := by
      show (if kd = 0 then [(1, nI nu)] else if kd = 1 then [(2, 0)] else if kd < 8 then [(if nu = 0 then 3 else 4, nI (qK kd))] else if kd = 25 then [(5, 0)] else if kd = 8 then trC (f + 1) ta ++ [(6, 0)] else if kd = 26 then trC (f + 1) ta ++ [(7, 0)] else trC (f + 1) ta ++ trC (f + 1) tb ++ [(nI (opK kd), 0)]) = _
      rw [if_neg (by omega), if_neg (by omega), if_neg h8, if_neg (by omega)]
      by_cases c : kd = 8
      · rw [if_pos c, if_pos c]
      · rw [if_neg c, if_neg c, if_neg (by omega)]
    have eL : tkL (f + 2) ((kd, nu), (ta, tb)) = if kd = 8 then (27, 0) :: (20, 0) :: (tkL (f + 1) ta ++ [(21, 0)]) else if kd < 13 then (20, 0) :: (tkL (f + 1) ta ++ (21, 0) :: (17 + kd, 0) :: (20, 0) :: (tkL (f + 1) tb ++ [(21, 0)])) else (5 + kd, 0) :: (20, 0) :: (tkL (f + 1) ta ++ (25, 0) :: (tkL (f + 1) tb ++ [(21, 0)])) := by
      show (if kd = 0 then [(36, nu)] else if kd = 1 then [(10, 0)] else if kd < 8 then [(wK kd, 0), (if nu = 0 then 6 else 7, 0)] else if kd = 8 then (27, 0) :: (20, 0) :: (tkL (f + 1) ta ++ [(21, 0)]) else if kd < 13 then (20, 0) :: (tkL (f + 1) ta ++ (21, 0) :: (17 + kd, 0) :: (20, 0) :: (tkL (f + 1) tb ++ [(21, 0)])) else if kd < 15 then (5 + kd, 0) :: (20, 0) :: (tkL (f + 1) ta ++ (25, 0) :: (tkL (f + 1) tb ++ [(21, 0)])) else _) = _
      rw [if_neg (by omega), if_neg (by omega), if_neg h8]
      by_cases c : kd = 8
      · rw [if_pos c, if_pos c]
      · rw [if_neg c, if_neg c]
        by_cases c2 : kd < 13
        · rw [if_pos c2, if_pos c2]
        · rw [if_neg c2, if_neg c2, if_pos h15]
    rw [eL] at hT hN ⊢
    rw [eC]
    obtain ⟨H2, rfl⟩ : ∃ z, H = z + 2 := ⟨H - 2, by omega⟩
    by_cases c8 : kd = 8
    · rw [if_pos c8] at hT hN ⊢
      rw [if_pos c8]
      have t0 : tk k = 27 := hT.hd.1
      have t1 : tk (k + 1) = 20 := hT.tl.hd.1
      have tA := hT.tl.tl.l
      have t2 : tk (k + 1 + 1 + (tkL (f + 1) ta).length) = 21 := hT.tl.tl.r.hd.1
      have za := ih ta H2 (k + 1 + 1) ka wa sa (by omega) (by omega) tA (nSP_c t2 (by decide))
      have zv := pV_par (H := H2) (k := k + 1) (by omega) t1 za t2
      have zn : pV tk num (H2 + 2) k = (true, k + 1 + 1 + (tkL (f + 1) ta).length + 1, trC (f + 1) ta ++ [(6, 0)]) := by
        show valW tk num (8 - (H2 + 1 + 1)) (pV tk num (H2 + 1)) (sumW tk (pV tk num (H2 + 1))) k = _
        unfold valW
        rw [if_neg (by omega), if_neg (by omega), if_pos t0]
        unfold negW
        exact bnd_k (em := []) (dpt_k (by omega) t0) (bnd_k zv rfl)
      have el : k + ((27, 0) :: (20, 0) :: (tkL (f + 1) ta ++ [(21, 0)]) : List (Nat × Nat)).length = k + 1 + 1 + (tkL (f + 1) ta).length + 1 := by simp only [List.length_cons, List.length_append, List.length_nil]; omega
      rw [el] at hN ⊢
      exact sumW_1 zn hN
    rw [if_neg c8] at hT hN ⊢
    rw [if_neg c8]
    have hb : hasB kd := ⟨by omega, by omega, by omega⟩
    have kb : trK (f + 1) tb := hK.2.2.2.2.1 hb
    have wb : trW (f + 1) tb := hW.2 hb
    have sb : trS (f + 1) tb := hS.2.2 hb
    by_cases c13 : kd < 13
    · rw [if_pos c13] at hT hN ⊢
      have t0 : tk k = 20 := hT.hd.1
      have tA := hT.tl.l
      have t1 : tk (k + 1 + (tkL (f + 1) ta).length) = 21 := hT.tl.r.hd.1
      have t2 : tk (k + 1 + (tkL (f + 1) ta).length + 1) = 17 + kd := hT.tl.r.tl.hd.1
      have t3 : tk (k + 1 + (tkL (f + 1) ta).length + 1 + 1) = 20 := hT.tl.r.tl.tl.hd.1
      have tB := hT.tl.r.tl.tl.tl.l
      have t4 : tk (k + 1 + (tkL (f + 1) ta).length + 1 + 1 + 1 + (tkL (f + 1) tb).length) = 21 := hT.tl.r.tl.tl.tl.r.hd.1
      have za := ih ta (H2 + 1) (k + 1) ka wa sa (by omega) (by omega) tA (nSP_c t1 (by decide))
      have zb := ih tb (H2 + 1) (k + 1 + (tkL (f + 1) ta).length + 1 + 1 + 1) kb wb sb (by omega) (by omega) tB (nSP_c t4 (by decide))
      have va := pV_par (H := H2 + 1) (by omega) t0 za t1
      have vb := pV_par (H := H2 + 1) (by omega) t3 zb t4
      have el : k + ((20, 0) :: (tkL (f + 1) ta ++ (21, 0) :: (17 + kd, 0) :: (20, 0) :: (tkL (f + 1) tb ++ [(21, 0)])) : List (Nat × Nat)).length = k + 1 + (tkL (f + 1) ta).length + 1 + 1 + 1 + (tkL (f + 1) tb).length + 1 := by simp only [List.length_cons, List.length_append, List.length_nil]; omega
      rw [el] at hN ⊢
      rw [List.append_assoc]
      by_cases c11 : kd < 11
      · have e1 : opP (17 + kd) = 0 ∧ opS (17 + kd) = nI (opK kd) ∧ ¬ opS (17 + kd) = 0 := by
          rcases (show kd = 9 ∨ kd = 10 by omega) with rfl | rfl <;> decide
        have pa := chW_1 (tk := tk) (op := opP) va (by rw [t2]; exact e1.1)
        have pb := chW_1 (tk := tk) (op := opP) vb hN.2
        have z := chW_2 (tk := tk) (op := opS) pa (by rw [t2]; exact e1.2.2) pb hN.1
        rw [t2, e1.2.1] at z
        exact z
      · have e1 : opP (17 + kd) = nI (opK kd) ∧ ¬ opP (17 + kd) = 0 := by
          rcases (show kd = 11 ∨ kd = 12 by omega) with rfl | rfl <;> decide
        have z := chW_2 (tk := tk) (op := opP) va (by rw [t2]; exact e1.2) vb hN.2
        rw [t2, e1.1] at z
        exact chW_1 z hN.1
    · rw [if_neg c13] at hT hN ⊢
      have t0 : tk k = 5 + kd := hT.hd.1
      have t1 : tk (k + 1) = 20 := hT.tl.hd.1
      have tA := hT.tl.tl.l
      have t2 : tk (k + 1 + 1 + (tkL (f + 1) ta).length) = 25 := hT.tl.tl.r.hd.1
      have tB := hT.tl.tl.r.tl.l
      have t3 : tk (k + 1 + 1 + (tkL (f + 1) ta).length + 1 + (tkL (f + 1) tb).length) = 21 := hT.tl.tl.r.tl.r.hd.1
      have za := ih ta (H2 + 1) (k + 1 + 1) ka wa sa (by omega) (by omega) tA (nSP_c t2 (by decide))
      have zb := ih tb (H2 + 1) (k + 1 + 1 + (tkL (f + 1) ta).length + 1) kb wb sb (by omega) (by omega) tB (nSP_c t3 (by decide))
      have el : k + ((5 + kd, 0) :: (20, 0) :: (tkL (f + 1) ta ++ (25, 0) :: (tkL (f + 1) tb ++ [(21, 0)])) : List (Nat × Nat)).length = k + 1 + 1 + (tkL (f + 1) ta).length + 1 + (tkL (f + 1) tb).length + 1 := by simp only [List.length_cons, List.length_append, List.length_nil]; omega
      rw [el] at hN ⊢
      have eo : (if tk k = 18 then (12 : Int32) else 13) = nI (opK kd) := by
        rw [t0]
        rcases (show kd = 13 ∨ kd = 14 by omega) with rfl | rfl <;> decide
      have zc : choW tk (8 - (H2 + 1 + 1)) (sumW tk (pV tk num (H2 + 1))) k = (true, k + 1 + 1 + (tkL (f + 1) ta).length + 1 + (tkL (f + 1) tb).length + 1, trC (f + 1) ta ++ trC (f + 1) tb ++ [(nI (opK kd), 0)]) := by
        unfold choW
        rw [eo, List.append_assoc]
        exact bnd_k (em := []) (dpt_k (by omega) t1) (bnd_k za (bnd_k (em := []) (eat_k t2) (bnd_k zb (bnd_k (em := []) (eat_k t3) rfl))))
      have zn : pV tk num (H2 + 2) k = (true, k + 1 + 1 + (tkL (f + 1) ta).length + 1 + (tkL (f + 1) tb).length + 1, trC (f + 1) ta ++ trC (f + 1) tb ++ [(nI (opK kd), 0)]) := by
        show valW tk num (8 - (H2 + 1 + 1)) (pV tk num (H2 + 1)) (sumW tk (pV tk num (H2 + 1))) k = _
        unfold valW
        rw [if_neg (by omega), if_neg (by omega), if_neg (by omega), if_neg (by omega), if_pos (by omega)]
        exact zc
      exact sumW_1 zn hN
end XPS
