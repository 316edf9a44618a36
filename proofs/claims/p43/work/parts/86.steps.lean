/-! A tree as steps: what the rules' machine does with them is what the tree comes to -/
section XSK
variable {G : xx_G} {l : Launch} {A A' : xx_H} {n : Nat} {k j i q s e t d : Nat}
/-- the count of a kind, the step of a kind -/
def qK (kd : Nat) : Nat := if kd = 2 then 1 else if kd = 3 then 0 else if kd = 4 then 2 else if kd = 5 then 6 else if kd = 6 then 7 else 5
def opK (kd : Nat) : Nat := if kd < 15 then kd - 1 else if kd < 25 then kd - 6 else kd - 8
theorem qK_lt {kd : Nat} : qK kd < 10 := by
  unfold qK
  repeat (split; omega)
  omega
def trC : (f : Nat) → Tr f → List (Int32 × Int32)
  | 0, _ => []
  | f + 1, tr => if tr.1.1 = 0 then [(1, nI tr.1.2)] else if tr.1.1 = 1 then [(2, 0)] else if tr.1.1 < 8 then [(if tr.1.2 = 0 then 3 else 4, nI (qK tr.1.1))] else if tr.1.1 = 25 then [(5, 0)] else if tr.1.1 = 8 then trC f tr.2.1 ++ [(6, 0)] else if tr.1.1 = 26 then trC f tr.2.1 ++ [(7, 0)] else trC f tr.2.1 ++ trC f tr.2.2 ++ [(nI (opK tr.1.1), 0)]
/-- what a tree comes to over a Field, for i against j -/
def trF (F : xS) (i j : Nat) : (f : Nat) → Tr f → Int32
  | 0, _ => 0
  | f + 1, tr => if tr.1.1 = 0 then nI tr.1.2 else if tr.1.1 = 1 then F.1 1 - 1 else if tr.1.1 < 8 then F.2 2 (qK tr.1.1 * 12 + (if tr.1.2 = 0 then i else j)) else if tr.1.1 = 25 then (if 1 < F.2 3 (i * 12 + j) then 1 else 0) else if tr.1.1 = 8 then -(trF F i j f tr.2.1) else if tr.1.1 = 26 then 1 - trF F i j f tr.2.1 else opJ (nI (opK tr.1.1)) (trF F i j f tr.2.1) (trF F i j f tr.2.2)
/-- steps in a row -/
abbrev stpL (F : xS) (i j : Nat) (L : List (Int32 × Int32)) (s : List Int32) : List Int32 := L.foldl (fun s q => stepL F i j q.1 q.2 s) s
theorem trC_pos : ∀ (f : Nat) (tr : Tr (f + 1)), 0 < (trC (f + 1) tr).length := by
  intro f tr
  show 0 < (if tr.1.1 = 0 then [(1, nI tr.1.2)] else if tr.1.1 = 1 then [(2, 0)] else if tr.1.1 < 8 then [(if tr.1.2 = 0 then 3 else 4, nI (qK tr.1.1))] else if tr.1.1 = 25 then [(5, 0)] else if tr.1.1 = 8 then trC f tr.2.1 ++ [(6, 0)] else if tr.1.1 = 26 then trC f tr.2.1 ++ [(7, 0)] else trC f tr.2.1 ++ trC f tr.2.2 ++ [(nI (opK tr.1.1), 0)]).length
  split
  · exact Nat.zero_lt_one
  split
  · exact Nat.zero_lt_one
  split
  · exact Nat.zero_lt_one
  split
  · exact Nat.zero_lt_one
  split
  · rw [List.length_append]; exact Nat.succ_pos _
  split
  · rw [List.length_append]; exact Nat.succ_pos _
  · rw [List.length_append]; exact Nat.succ_pos _
/-- a tree that stands whole: its storeys suffice -/
def trW : (f : Nat) → Tr f → Prop
  | 0, _ => False
  | f + 1, tr => (hasA tr.1.1 → trW f tr.2.1) ∧ (hasB tr.1.1 → trW f tr.2.2)
theorem stepL_b {F : xS} {i j : Nat} {o : Nat} {x a c : Int32} {r : List Int32} (h1 : 8 ≤ o) (h2 : o < 21) (hr : r.length < 400) : stepL F i j (nI o) x (c :: a :: r) = opJ (nI o) a c :: r := by
  have e : (nI o).toInt = o := i_n (by omega)
  have hp : psh (opJ (nI o) a c) r = opJ (nI o) a c :: r := if_pos hr
  rcases (show o = 8 ∨ o = 9 ∨ o = 10 ∨ o = 11 ∨ o = 12 ∨ o = 13 ∨ o = 14 ∨ o = 15 ∨ o = 16 ∨ o = 17 ∨ o = 18 ∨ o = 19 ∨ o = 20 by omega) with rfl | rfl | rfl | rfl | rfl | rfl | rfl | rfl | rfl | rfl | rfl | rfl | rfl <;> exact hp
theorem opK_lt {kd : Nat} (h : hasB kd) (h1 : kd < 29) (h2 : ¬ (14 < kd ∧ kd < 20)) : 8 ≤ opK kd ∧ opK kd < 21 := by
  obtain ⟨h3, h4, h5⟩ := h
  unfold opK
  split
  · omega
  · split <;> omega
theorem stp_tr {F : xS} {i j : Nat} : ∀ (f : Nat) (tr : Tr f) (r : List Int32), trK f tr → trW f tr → r.length + (trC f tr).length ≤ 400 → stpL F i j (trC f tr) r = trF F i j f tr :: r := by
  intro f
  induction f with
  | zero => intro tr r _ h _; exact h.elim
  | succ f ih =>
    intro tr r hK hW hl
    obtain ⟨⟨kd, nu⟩, ta, tb⟩ := tr
    obtain ⟨hk1, hk2, hk3, hk4, hk5, hk6⟩ := hK
    have hk1 : kd < 29 := hk1
    have hk6 : ¬ (14 < kd ∧ kd < 20) := hk6
    have hk4 : hasA kd → trK f ta := hk4
    have hk5 : hasB kd → trK f tb := hk5
    have hwa : hasA kd → trW f ta := hW.1
    have hwb : hasB kd → trW f tb := hW.2
    have eC : trC (f + 1) ((kd, nu), (ta, tb)) = if kd = 0 then [(1, nI nu)] else if kd = 1 then [(2, 0)] else if kd < 8 then [(if nu = 0 then 3 else 4, nI (qK kd))] else if kd = 25 then [(5, 0)] else if kd = 8 then trC f ta ++ [(6, 0)] else if kd = 26 then trC f ta ++ [(7, 0)] else trC f ta ++ trC f tb ++ [(nI (opK kd), 0)] := rfl
    have eF : trF F i j (f + 1) ((kd, nu), (ta, tb)) = if kd = 0 then nI nu else if kd = 1 then F.1 1 - 1 else if kd < 8 then F.2 2 (qK kd * 12 + (if nu = 0 then i else j)) else if kd = 25 then (if 1 < F.2 3 (i * 12 + j) then 1 else 0) else if kd = 8 then -(trF F i j f ta) else if kd = 26 then 1 - trF F i j f ta else opJ (nI (opK kd)) (trF F i j f ta) (trF F i j f tb) := rfl
    rw [eC] at hl ⊢
    rw [eF]
    have pp : ∀ v : Int32, r.length + 1 ≤ 400 → psh v r = v :: r := fun v h => if_pos (by omega)
    by_cases c0 : kd = 0
    · rw [if_pos c0] at hl ⊢; rw [if_pos c0]; exact pp _ hl
    rw [if_neg c0] at hl ⊢; rw [if_neg c0]
    by_cases c1 : kd = 1
    · rw [if_pos c1] at hl ⊢; rw [if_pos c1]; exact pp _ hl
    rw [if_neg c1] at hl ⊢; rw [if_neg c1]
    by_cases c2 : kd < 8
    · rw [if_pos c2] at hl ⊢; rw [if_pos c2]
      have hq := qK_lt (kd := kd)
      by_cases cn : nu = 0
      · rw [if_pos cn, if_pos cn]
        have z := pp (F.2 2 (qK kd * 12 + i)) hl
        show psh (F.2 2 ((nI (qK kd)).toNatClampNeg * 12 + i)) r = _
        rw [nI_clamp (by omega)]; exact z
      · rw [if_neg cn, if_neg cn]
        have z := pp (F.2 2 (qK kd * 12 + j)) hl
        show psh (F.2 2 ((nI (qK kd)).toNatClampNeg * 12 + j)) r = _
        rw [nI_clamp (by omega)]; exact z
    rw [if_neg c2] at hl ⊢; rw [if_neg c2]
    by_cases c3 : kd = 25
    · rw [if_pos c3] at hl ⊢; rw [if_pos c3]; exact pp _ hl
    rw [if_neg c3] at hl ⊢; rw [if_neg c3]
    have ha : hasA kd := ⟨by omega, c3⟩
    by_cases c4 : kd = 8
    · rw [if_pos c4] at hl ⊢; rw [if_pos c4]
      rw [List.length_append] at hl
      have z := ih ta r (hk4 ha) (hwa ha) (by omega)
      show stpL F i j (trC f ta ++ [(6, 0)]) r = _
      unfold stpL at z ⊢
      rw [List.foldl_append, z]
      exact if_pos (show r.length < 400 by have : [((6 : Int32), (0 : Int32))].length = 1 := rfl; omega)
    rw [if_neg c4] at hl ⊢; rw [if_neg c4]
    by_cases c5 : kd = 26
    · rw [if_pos c5] at hl ⊢; rw [if_pos c5]
      rw [List.length_append] at hl
      have z := ih ta r (hk4 ha) (hwa ha) (by omega)
      unfold stpL at z ⊢
      rw [List.foldl_append, z]
      exact if_pos (show r.length < 400 by have : [((7 : Int32), (0 : Int32))].length = 1 := rfl; omega)
    rw [if_neg c5] at hl ⊢; rw [if_neg c5]
    have hb : hasB kd := ⟨by omega, c3, c5⟩
    rw [List.length_append, List.length_append] at hl
    have h1 : [(nI (opK kd), (0 : Int32))].length = 1 := rfl
    have hpa : 0 < (trC f ta).length := by
      cases f with
      | zero => exact (hwa ha).elim
      | succ f => exact trC_pos f ta
    have za := ih ta r (hk4 ha) (hwa ha) (by omega)
    have zb := ih tb (trF F i j f ta :: r) (hk5 hb) (hwb hb) (by show r.length + 1 + _ ≤ 400; omega)
    unfold stpL at za zb ⊢
    rw [List.foldl_append, List.foldl_append, za, zb]
    obtain ⟨o1, o2⟩ := opK_lt hb hk1 hk6
    exact stepL_b o1 o2 (by omega)
/-- stepping through the rules' own rows -/
theorem runL_l {F : xS} {i j : Nat} {ops xs : Nat → Int32} : ∀ (L : List (Int32 × Int32)) (p : Nat) (s : List Int32), (∀ q, q < L.length → ops (p + q) = (L.getD q (0, 0)).1 ∧ xs (p + q) = (L.getD q (0, 0)).2) → runL F i j ops xs L.length p s = stpL F i j L s := by
  intro L
  induction L with
  | nil => intro p s _; rfl
  | cons c L ih =>
    intro p s h
    obtain ⟨h1, h2⟩ := h 0 (Nat.succ_pos _)
    show runL F i j ops xs L.length (p + 1) (stepL F i j (ops p) (xs p) s) = stpL F i j L (stepL F i j c.1 c.2 s)
    have e1 : ops p = c.1 := h1
    have e2 : xs p = c.2 := h2
    rw [e1, e2]
    exact ih (p + 1) _ (fun q hq => by
      have z := h (q + 1) (Nat.succ_lt_succ hq)
      rw [show p + 1 + q = p + (q + 1) from by omega]
      exact z)
/-- the trees that a number chooses stand whole -/
theorem smT_W : ∀ (f : Nat) (x : Int32) (d : Nat), 3 ≤ f + d → trW (f + 1) (smT (f + 1) x d) := by
  intro f
  induction f with
  | zero =>
    intro x d h
    have h8 := smK_d (x := x) (d := d) (by omega)
    exact ⟨fun z => absurd z.1 (Nat.not_le.mpr h8), fun z => absurd z.1 (Nat.not_le.mpr (Nat.lt_succ_of_lt h8))⟩
  | succ f ih =>
    intro x d h
    exact ⟨fun _ => ih _ _ (by omega), fun _ => ih _ _ (by omega)⟩
theorem tsT_W : ∀ (f : Nat) (x : Int32) (d : Nat), d ≤ 2 → 3 ≤ f + d → trW (f + 1) (tsT (f + 1) x d) := by
  intro f
  induction f with
  | zero => intro x d h1 h2; omega
  | succ f ih =>
    intro x d h1 h2
    show (hasA (tsK x d) → trW (f + 1) (if tsK x d < 25 then (smT (f + 1) (x * 3 + 7) (d + 1), smT (f + 1) (x * 5 + 1) (d + 1)) else (tsT (f + 1) (x * 3 + 5) (d + 1), tsT (f + 1) (x * 7 + 3) (d + 1))).1) ∧ (hasB (tsK x d) → trW (f + 1) (if tsK x d < 25 then (smT (f + 1) (x * 3 + 7) (d + 1), smT (f + 1) (x * 5 + 1) (d + 1)) else (tsT (f + 1) (x * 3 + 5) (d + 1), tsT (f + 1) (x * 7 + 3) (d + 1))).2)
    by_cases c : tsK x d < 25
    · rw [if_pos c]
      exact ⟨fun _ => smT_W _ _ _ (by omega), fun _ => smT_W _ _ _ (by omega)⟩
    · rw [if_neg c]
      have hd : hasA (tsK x d) → d ≤ 1 := fun z => Nat.not_lt.mp (fun h => by have := tsK_d (x := x) h; have := z.2; omega)
      have hd2 : hasB (tsK x d) → d ≤ 1 := fun z => Nat.not_lt.mp (fun h => by have := tsK_d (x := x) h; have := z.2.1; omega)
      exact ⟨fun z => ih _ _ (by have := hd z; omega) (by omega), fun z => ih _ _ (by have := hd2 z; omega) (by omega)⟩
end XSK
