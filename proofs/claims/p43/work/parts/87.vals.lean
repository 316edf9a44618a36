/-! What a tree comes to by hand and over a Field -/
section XVL
variable {G : xx_G} {l : Launch} {A A' : xx_H} {n : Nat} {k j i q s e t d : Nat}
theorem div_m1 (x : Int32) : x / -1 = -x := by
  apply Int32.toInt_inj.mp
  rw [Int32.toInt_div, show (-1 : Int32).toInt = -1 from rfl, Int.tdiv_neg, Int.tdiv_one, Int32.toInt_neg]
/-- a truth value -/
abbrev b01 (x : Int32) : Prop := x = 0 ∨ x = 1
theorem twV_o {kd : Nat} {x y : Int32} (h : hasB kd) (h1 : kd < 27) (h2 : ¬ (14 < kd ∧ kd < 20)) : twV kd x y = opJ (nI (opK kd)) x y := by
  obtain ⟨h3, h4, h5⟩ := h
  rcases (show kd = 9 ∨ kd = 10 ∨ kd = 11 ∨ kd = 12 ∨ kd = 13 ∨ kd = 14 ∨ kd = 20 ∨ kd = 21 ∨ kd = 22 ∨ kd = 23 ∨ kd = 24 by omega) with rfl | rfl | rfl | rfl | rfl | rfl | rfl | rfl | rfl | rfl | rfl
  · rfl
  · rfl
  · rfl
  · show (if y = 0 then 0 else if y = -1 then -x else x / y) = (if y = 0 then 0 else x / y)
    by_cases c : y = 0
    · rw [if_pos c, if_pos c]
    · rw [if_neg c, if_neg c]
      by_cases c2 : y = -1
      · rw [if_pos c2, c2, div_m1]
      · rw [if_neg c2]
  · show (if x < y then x else y) = (if y < x then y else x)
    by_cases c : x < y
    · rw [if_pos c, if_neg (fun z => by rw [i_lt] at c z; omega)]
    · rw [if_neg c]
      by_cases c2 : y < x
      · rw [if_pos c2]
      · rw [if_neg c2]; apply Int32.toInt_inj.mp; rw [i_lt] at c c2; omega
  · rfl
  · rfl
  · rfl
  · rfl
  · show (if y < x then (0 : Int32) else 1) = (if x ≤ y then 1 else 0)
    by_cases c : y < x
    · rw [if_pos c, if_neg (Int32.not_le.mpr c)]
    · rw [if_neg c, if_pos (Int32.not_lt.mp c)]
  · show (if x < y then (0 : Int32) else 1) = (if y ≤ x then 1 else 0)
    by_cases c : x < y
    · rw [if_pos c, if_neg (Int32.not_le.mpr c)]
    · rw [if_neg c, if_pos (Int32.not_lt.mp c)]
theorem twV_b {kd : Nat} {x y : Int32} (h : kd = 27 ∨ kd = 28) (hx : b01 x) (hy : b01 y) : twV kd x y = opJ (nI (opK kd)) x y ∧ b01 (opJ (nI (opK kd)) x y) := by
  rcases h with rfl | rfl <;> rcases hx with rfl | rfl <;> rcases hy with rfl | rfl <;> exact ⟨by decide, by decide⟩
/-- truth values under not, and, or -/
def trT : (f : Nat) → Tr f → Prop
  | 0, _ => True
  | f + 1, tr => (hasA tr.1.1 → trT f tr.2.1) ∧ (hasB tr.1.1 → trT f tr.2.2) ∧ (25 < tr.1.1 → match f, tr.2.1 with | 0, _ => False | _ + 1, ta => 20 ≤ ta.1.1) ∧ (26 < tr.1.1 → match f, tr.2.2 with | 0, _ => False | _ + 1, tb => 20 ≤ tb.1.1)
theorem b01_i {p : Prop} [Decidable p] : b01 (if p then 1 else 0) := by
  by_cases c : p
  · rw [if_pos c]; exact Or.inr rfl
  · rw [if_neg c]; exact Or.inl rfl
theorem opJ_b {kd : Nat} {x y : Int32} (h1 : 20 ≤ kd) (h2 : kd < 25) : b01 (opJ (nI (opK kd)) x y) := by
  rcases (show kd = 20 ∨ kd = 21 ∨ kd = 22 ∨ kd = 23 ∨ kd = 24 by omega) with rfl | rfl | rfl | rfl | rfl <;> exact b01_i
/-- leaves of a tree: by hand as over the Field -/
def lfT (S : sS) (b : Nat → Int32) (F : xS) (i j : Nat) : Prop := b 0 = F.1 1 - 1 ∧ (∀ kd nu, 2 ≤ kd → kd < 8 → nu < 2 → ofS S (nI kd) (b (1 + nu)) = F.2 2 (qK kd * 12 + (if nu = 0 then i else j))) ∧ (0 < mtS S (b 1) (b 2) (b 0) ↔ 1 < F.2 3 (i * 12 + j))
theorem tr_tie {S : sS} {b : Nat → Int32} {F : xS} {i j : Nat} (hl : lfT S b F i j) : ∀ (f : Nat) (tr : Tr f), trK f tr → trW f tr → trT f tr → trV S b f tr = trF F i j f tr ∧ (match f, tr with | 0, _ => True | _ + 1, tr => 20 ≤ tr.1.1 → b01 (trF F i j _ tr)) := by
  intro f
  induction f with
  | zero => intro tr _ h _; exact h.elim
  | succ f ih =>
    intro tr hK hW hT
    obtain ⟨⟨kd, nu⟩, ta, tb⟩ := tr
    obtain ⟨hk1, hk2, hk3, hk4, hk5, hk6⟩ := hK
    have hk1 : kd < 29 := hk1
    have hk3 : ¬ kd = 0 → nu < 2 := hk3
    have hk6 : ¬ (14 < kd ∧ kd < 20) := hk6
    have hk4 : hasA kd → trK f ta := hk4
    have hk5 : hasB kd → trK f tb := hk5
    have hwa : hasA kd → trW f ta := hW.1
    have hwb : hasB kd → trW f tb := hW.2
    obtain ⟨ht1, ht2, ht3, ht4⟩ := hT
    have ht1 : hasA kd → trT f ta := ht1
    have ht2 : hasB kd → trT f tb := ht2
    have eF : trF F i j (f + 1) ((kd, nu), (ta, tb)) = if kd = 0 then nI nu else if kd = 1 then F.1 1 - 1 else if kd < 8 then F.2 2 (qK kd * 12 + (if nu = 0 then i else j)) else if kd = 25 then (if 1 < F.2 3 (i * 12 + j) then 1 else 0) else if kd = 8 then -(trF F i j f ta) else if kd = 26 then 1 - trF F i j f ta else opJ (nI (opK kd)) (trF F i j f ta) (trF F i j f tb) := rfl
    show trV S b (f + 1) ((kd, nu), (ta, tb)) = trF F i j (f + 1) ((kd, nu), (ta, tb)) ∧ (20 ≤ kd → b01 (trF F i j (f + 1) ((kd, nu), (ta, tb))))
    rw [eF, trV_s]
    by_cases c0 : kd = 0
    · rw [if_pos c0, if_pos c0]; exact ⟨rfl, fun z => by omega⟩
    rw [if_neg c0, if_neg c0]
    by_cases c1 : kd = 1
    · rw [if_pos c1, if_pos c1]; exact ⟨hl.1, fun z => by omega⟩
    rw [if_neg c1, if_neg c1]
    by_cases c2 : kd < 8
    · rw [if_pos c2, if_pos c2]; exact ⟨hl.2.1 kd nu (by omega) c2 (hk3 c0), fun z => by omega⟩
    rw [if_neg c2, if_neg c2]
    by_cases c3 : kd = 25
    · rw [if_pos c3, if_pos c3]
      refine ⟨?_, fun _ => b01_i⟩
      by_cases cm : 0 < mtS S (b 1) (b 2) (b 0)
      · rw [if_pos cm, if_pos (hl.2.2.mp cm)]
      · rw [if_neg cm, if_neg (fun z => cm (hl.2.2.mpr z))]
    rw [if_neg c3, if_neg c3]
    have ha : hasA kd := ⟨by omega, c3⟩
    obtain ⟨va, wa⟩ := ih ta (hk4 ha) (hwa ha) (ht1 ha)
    have ba : 25 < kd → b01 (trF F i j f ta) := fun z => by
      cases f with
      | zero => exact (hwa ha).elim
      | succ f => exact wa (ht3 z)
    by_cases c4 : kd = 8
    · rw [if_pos c4, if_pos c4]; exact ⟨by rw [va], fun z => by omega⟩
    rw [if_neg c4, if_neg c4]
    by_cases c5 : kd = 26
    · rw [if_pos c5, if_pos c5]
      refine ⟨by rw [va], fun _ => ?_⟩
      rcases ba (by omega) with z | z <;> rw [z] <;> decide
    rw [if_neg c5, if_neg c5]
    have hb : hasB kd := ⟨by omega, c3, c5⟩
    obtain ⟨vb, wb⟩ := ih tb (hk5 hb) (hwb hb) (ht2 hb)
    rw [va, vb]
    by_cases c6 : kd < 27
    · exact ⟨twV_o hb c6 hk6, fun z => opJ_b z (by omega)⟩
    · have bb : b01 (trF F i j f tb) := by
        cases f with
        | zero => exact (hwb hb).elim
        | succ f => exact wb (ht4 (by show 26 < kd; omega))
      obtain ⟨z1, z2⟩ := twV_b (x := trF F i j f ta) (y := trF F i j f tb) (show kd = 27 ∨ kd = 28 by omega) (ba (by omega)) bb
      exact ⟨z1, fun _ => z2⟩
theorem smT_T : ∀ (f : Nat) (x : Int32) (d : Nat), trT f (smT f x d) := by
  intro f
  induction f with
  | zero => intro x d; exact trivial
  | succ f ih =>
    intro x d
    have h := smK_lt (x := x) (d := d)
    exact ⟨fun _ => ih _ _, fun _ => ih _ _, fun z => absurd (show 25 < smK x d from z) (by omega), fun z => absurd (show 26 < smK x d from z) (by omega)⟩
theorem tsT_T : ∀ (f : Nat) (x : Int32) (d : Nat), d ≤ 2 → 3 ≤ f + d → trT (f + 1) (tsT (f + 1) x d) := by
  intro f
  induction f with
  | zero => intro x d h1 h2; omega
  | succ f ih =>
    intro x d h1 h2
    have e : tsT (f + 2) x d = ((tsK x d, 0), if tsK x d < 25 then (smT (f + 1) (x * 3 + 7) (d + 1), smT (f + 1) (x * 5 + 1) (d + 1)) else (tsT (f + 1) (x * 3 + 5) (d + 1), tsT (f + 1) (x * 7 + 3) (d + 1))) := rfl
    rw [e]
    by_cases c : tsK x d < 25
    · rw [if_pos c]
      exact ⟨fun _ => smT_T _ _ _, fun _ => smT_T _ _ _, fun z => absurd (show 25 < tsK x d from z) (by omega), fun z => absurd (show 26 < tsK x d from z) (by omega)⟩
    · rw [if_neg c]
      have hd : 25 < tsK x d → d ≤ 1 := fun z => Nat.not_lt.mp (fun h => by have := tsK_d (x := x) h; omega)
      have hd2 : hasA (tsK x d) → d ≤ 1 := fun z => hd (by have := z.2; omega)
      have hd3 : hasB (tsK x d) → d ≤ 1 := fun z => hd (by have := z.2.1; omega)
      exact ⟨fun z => ih _ _ (by have := hd2 z; omega) (by omega), fun z => ih _ _ (by have := hd3 z; omega) (by omega), fun _ => tsK_lt.1, fun _ => tsK_lt.1⟩
end XVL
