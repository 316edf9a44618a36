/-! A test's tokens, parsed -/
section XPT
variable {n : Nat} {k j i q s e t d : Nat} {tk : Nat → Nat} {num : Nat → Int32}
/-- a test over sums -/
def trP : (f : Nat) → Tr f → Prop
  | 0, _ => False
  | f + 1, tr => 20 ≤ tr.1.1 ∧ tr.1.1 < 29 ∧ (tr.1.1 < 25 → trS f tr.2.1 ∧ trS f tr.2.2) ∧ (25 < tr.1.1 → trP f tr.2.1) ∧ (26 < tr.1.1 → trP f tr.2.2)
theorem fst_sum {f : Nat} {tr : Tr (f + 1)} (hS : trS (f + 1) tr) (hT : tkAt tk num k (tkL (f + 1) tr)) : ¬ tk k = 15 ∧ ¬ tk k = 22 ∧ ¬ tk k = 12 := by
  obtain ⟨⟨kd, nu⟩, ta, tb⟩ := tr
  have h15 : kd < 15 := hS.1
  have eL : tkL (f + 1) ((kd, nu), (ta, tb)) = if kd = 0 then [(36, nu)] else if kd = 1 then [(10, 0)] else if kd < 8 then [(wK kd, 0), (if nu = 0 then 6 else 7, 0)] else if kd = 8 then (27, 0) :: (20, 0) :: (tkL f ta ++ [(21, 0)]) else if kd < 13 then (20, 0) :: (tkL f ta ++ (21, 0) :: (17 + kd, 0) :: (20, 0) :: (tkL f tb ++ [(21, 0)])) else (5 + kd, 0) :: (20, 0) :: (tkL f ta ++ (25, 0) :: (tkL f tb ++ [(21, 0)])) := by
    show (if kd = 0 then [(36, nu)] else if kd = 1 then [(10, 0)] else if kd < 8 then [(wK kd, 0), (if nu = 0 then 6 else 7, 0)] else if kd = 8 then (27, 0) :: (20, 0) :: (tkL f ta ++ [(21, 0)]) else if kd < 13 then (20, 0) :: (tkL f ta ++ (21, 0) :: (17 + kd, 0) :: (20, 0) :: (tkL f tb ++ [(21, 0)])) else if kd < 15 then (5 + kd, 0) :: (20, 0) :: (tkL f ta ++ (25, 0) :: (tkL f tb ++ [(21, 0)])) else _) = _
    rw [if_pos h15]
  rw [eL] at hT
  by_cases c0 : kd = 0
  · rw [if_pos c0] at hT; have : tk k = 36 := hT.hd.1; omega
  rw [if_neg c0] at hT
  by_cases c1 : kd = 1
  · rw [if_pos c1] at hT; have : tk k = 10 := hT.hd.1; omega
  rw [if_neg c1] at hT
  by_cases c2 : kd < 8
  · rw [if_pos c2] at hT
    have h : tk k = wK kd := hT.hd.1
    rw [h]
    rcases (show kd = 2 ∨ kd = 3 ∨ kd = 4 ∨ kd = 5 ∨ kd = 6 ∨ kd = 7 by omega) with rfl | rfl | rfl | rfl | rfl | rfl <;> decide
  rw [if_neg c2] at hT
  by_cases c3 : kd = 8
  · rw [if_pos c3] at hT; have : tk k = 27 := hT.hd.1; omega
  rw [if_neg c3] at hT
  by_cases c4 : kd < 13
  · rw [if_pos c4] at hT; have : tk k = 20 := hT.hd.1; omega
  · rw [if_neg c4] at hT; have : tk k = 5 + kd := hT.hd.1; omega
/-- nothing that goes on with a test -/
abbrev nTS (tk : Nat → Nat) (k : Nat) : Prop := opO (tk k) = 0 ∧ opA (tk k) = 0 ∧ nSP tk k
theorem nTS_c {v : Nat} (h : tk k = v) (h2 : opO v = 0 ∧ opA v = 0 ∧ opS v = 0 ∧ opP v = 0) : nTS tk k := by unfold nTS nSP; rw [h]; exact h2
theorem tst_1 {p : Nat → Res} {k' : Nat} {em : List (Int32 × Int32)} (h : p k = (true, k', em)) (h0 : nTS tk k') : tstW tk p k = (true, k', em) := chW_1 (chW_1 h h0.2.1) h0.1
theorem p1_par {H k' : Nat} {em : List (Int32 × Int32)} (h8 : H < 8) (h1 : tk k = 22) (h2 : tstW tk (p1 tk num H) (k + 1) = (true, k', em)) (h3 : tk k' = 23) : p1 tk num (H + 1) k = (true, k' + 1, em) := by
  show sngW tk (8 - (H + 1)) (p1 tk num H) (tstW tk (p1 tk num H)) (cmpW tk (sumW tk (pV tk num (H + 1)))) k = _
  unfold sngW
  rw [if_neg (by omega), if_pos h1]
  exact parW_t (by omega) h1 h2 h3
theorem p1_sng {H : Nat} {r : Res} (h12 : ¬ tk k = 15 ∧ ¬ tk k = 22 ∧ ¬ tk k = 12) (h : cmpW tk (sumW tk (pV tk num H)) k = r) : p1 tk num H k = r := by
  cases H with
  | zero =>
    show sngW tk 8 failW failW (cmpW tk (sumW tk (pV tk num 0))) k = r
    unfold sngW; rw [if_neg h12.1, if_neg h12.2.1, if_neg h12.2.2]; exact h
  | succ H =>
    show sngW tk (8 - (H + 1)) (p1 tk num H) (tstW tk (p1 tk num H)) (cmpW tk (sumW tk (pV tk num (H + 1)))) k = r
    unfold sngW; rw [if_neg h12.1, if_neg h12.2.1, if_neg h12.2.2]; exact h
theorem p1_met {H : Nat} (h : tk k = 12) : p1 tk num H k = (true, k + 1, [(5, 0)]) := by
  cases H with
  | zero =>
    show sngW tk 8 failW failW (cmpW tk (sumW tk (pV tk num 0))) k = _
    unfold sngW; rw [if_neg (by omega), if_neg (by omega), if_pos h]
  | succ H =>
    show sngW tk (8 - (H + 1)) (p1 tk num H) (tstW tk (p1 tk num H)) (cmpW tk (sumW tk (pV tk num (H + 1)))) k = _
    unfold sngW; rw [if_neg (by omega), if_neg (by omega), if_pos h]
/-- a test's tokens, parsed -/
theorem par_test : ∀ (f : Nat) (tr : Tr (f + 1)) (H k : Nat), trK (f + 1) tr → trW (f + 1) tr → trP (f + 1) tr → H ≤ 8 → 2 * f ≤ H → tkAt tk num k (tkL (f + 1) tr) → nTS tk (k + (tkL (f + 1) tr).length) → tstW tk (p1 tk num H) k = (true, k + (tkL (f + 1) tr).length, trC (f + 1) tr) := by
  intro f
  induction f with
  | zero =>
    intro tr H k hK hW hP hH hf hT hN
    obtain ⟨⟨kd, nu⟩, ta, tb⟩ := tr
    have h20 : 20 ≤ kd := hP.1
    have h25 : kd = 25 := by
      apply Classical.byContradiction
      intro z
      exact hW.1 ⟨by show 8 ≤ kd; omega, z⟩
    subst h25
    exact tst_1 (p1_met hT.hd.1) hN
  | succ f ih =>
    intro tr H k hK hW hP hH hf hT hN
    obtain ⟨⟨kd, nu⟩, ta, tb⟩ := tr
    obtain ⟨h20, h29, hp1, hp2, hp3⟩ := hP
    have h20 : 20 ≤ kd := h20
    have h29 : kd < 29 := h29
    by_cases c25 : kd = 25
    · subst c25
      exact tst_1 (p1_met hT.hd.1) hN
    have ha : hasA kd := ⟨by omega, c25⟩
    have ka : trK (f + 1) ta := hK.2.2.2.1 ha
    have wa : trW (f + 1) ta := hW.1 ha
    have eC : trC (f + 2) ((kd, nu), (ta, tb)) = if kd = 26 then trC (f + 1) ta ++ [(7, 0)] else trC (f + 1) ta ++ trC (f + 1) tb ++ [(nI (opK kd), 0)] := by
      show (if kd = 0 then [(1, nI nu)] else if kd = 1 then [(2, 0)] else if kd < 8 then [(if nu = 0 then 3 else 4, nI (qK kd))] else if kd = 25 then [(5, 0)] else if kd = 8 then trC (f + 1) ta ++ [(6, 0)] else if kd = 26 then trC (f + 1) ta ++ [(7, 0)] else trC (f + 1) ta ++ trC (f + 1) tb ++ [(nI (opK kd), 0)]) = _
      rw [if_neg (by omega), if_neg (by omega), if_neg (by omega), if_neg c25, if_neg (by omega)]
    have eL : tkL (f + 2) ((kd, nu), (ta, tb)) = if kd < 25 then tkL (f + 1) ta ++ (10 + kd, 0) :: tkL (f + 1) tb else if kd = 26 then (15, 0) :: (22, 0) :: (tkL (f + 1) ta ++ [(23, 0)]) else (22, 0) :: (tkL (f + 1) ta ++ (23, 0) :: (kd - 11, 0) :: (22, 0) :: (tkL (f + 1) tb ++ [(23, 0)])) := by
      show (if kd = 0 then [(36, nu)] else if kd = 1 then [(10, 0)] else if kd < 8 then [(wK kd, 0), (if nu = 0 then 6 else 7, 0)] else if kd = 8 then (27, 0) :: (20, 0) :: (tkL (f + 1) ta ++ [(21, 0)]) else if kd < 13 then (20, 0) :: (tkL (f + 1) ta ++ (21, 0) :: (17 + kd, 0) :: (20, 0) :: (tkL (f + 1) tb ++ [(21, 0)])) else if kd < 15 then (5 + kd, 0) :: (20, 0) :: (tkL (f + 1) ta ++ (25, 0) :: (tkL (f + 1) tb ++ [(21, 0)])) else if kd < 25 then tkL (f + 1) ta ++ (10 + kd, 0) :: tkL (f + 1) tb else if kd = 25 then [(12, 0)] else if kd = 26 then (15, 0) :: (22, 0) :: (tkL (f + 1) ta ++ [(23, 0)]) else (22, 0) :: (tkL (f + 1) ta ++ (23, 0) :: (kd - 11, 0) :: (22, 0) :: (tkL (f + 1) tb ++ [(23, 0)]))) = _
      rw [if_neg (by omega), if_neg (by omega), if_neg (by omega), if_neg (by omega), if_neg (by omega), if_neg (by omega), if_neg c25]
    rw [eL] at hT hN ⊢
    rw [eC]
    by_cases c : kd < 25
    · rw [if_pos c] at hT hN ⊢
      rw [if_neg (by omega)]
      have hb : hasB kd := ⟨by omega, by omega, by omega⟩
      have kb : trK (f + 1) tb := hK.2.2.2.2.1 hb
      have wb : trW (f + 1) tb := hW.2 hb
      obtain ⟨sa, sb⟩ := hp1 c
      have tA := hT.l
      have t1 : tk (k + (tkL (f + 1) ta).length) = 10 + kd := hT.r.hd.1
      have tB := hT.r.tl
      have el : k + (tkL (f + 1) ta ++ (10 + kd, 0) :: tkL (f + 1) tb).length = k + (tkL (f + 1) ta).length + 1 + (tkL (f + 1) tb).length := by simp only [List.length_cons, List.length_append]; omega
      rw [el] at hN ⊢
      have e1 : opS (10 + kd) = 0 ∧ opP (10 + kd) = 0 ∧ cmpT (10 + kd) = nI (opK kd) ∧ ¬ nI (opK kd) = 0 := by
        rcases (show kd = 20 ∨ kd = 21 ∨ kd = 22 ∨ kd = 23 ∨ kd = 24 by omega) with rfl | rfl | rfl | rfl | rfl <;> decide
      have za := par_sum f ta H k ka wa sa hH (by omega) tA (nSP_c t1 ⟨e1.1, e1.2.1⟩)
      have zb := par_sum f tb H _ kb wb sb hH (by omega) tB hN.2.2
      refine tst_1 (p1_sng (fst_sum sa tA) ?_) hN
      unfold cmpW
      rw [List.append_assoc]
      refine bnd_k za ?_
      show (if cmpT (tk (k + (tkL (f + 1) ta).length)) = 0 then _ else bnd (sumW tk (pV tk num H) (k + (tkL (f + 1) ta).length + 1)) (emt (cmpT (tk (k + (tkL (f + 1) ta).length))) 0)) = _
      rw [t1, e1.2.2.1, if_neg e1.2.2.2]
      exact bnd_k zb rfl
    rw [if_neg c] at hT hN ⊢
    have pa : trP (f + 1) ta := hp2 (by show 25 < kd; omega)
    obtain ⟨H2, rfl⟩ : ∃ z, H = z + 2 := ⟨H - 2, by omega⟩
    by_cases c26 : kd = 26
    · rw [if_pos c26] at hT hN ⊢
      rw [if_pos c26]
      have t0 : tk k = 15 := hT.hd.1
      have t1 : tk (k + 1) = 22 := hT.tl.hd.1
      have tA := hT.tl.tl.l
      have t2 : tk (k + 1 + 1 + (tkL (f + 1) ta).length) = 23 := hT.tl.tl.r.hd.1
      have za := ih ta H2 (k + 1 + 1) ka wa pa (by omega) (by omega) tA (nTS_c t2 (by decide))
      have zp := p1_par (H := H2) (k := k + 1) (by omega) t1 za t2
      have el : k + ((15, 0) :: (22, 0) :: (tkL (f + 1) ta ++ [(23, 0)]) : List (Nat × Nat)).length = k + 1 + 1 + (tkL (f + 1) ta).length + 1 := by simp only [List.length_cons, List.length_append, List.length_nil]; omega
      rw [el] at hN ⊢
      refine tst_1 ?_ hN
      show sngW tk (8 - (H2 + 1 + 1)) (p1 tk num (H2 + 1)) (tstW tk (p1 tk num (H2 + 1))) (cmpW tk (sumW tk (pV tk num (H2 + 2)))) k = _
      unfold sngW
      rw [if_pos t0]
      unfold notW
      exact bnd_k (em := []) (dpt_k (by omega) t0) (bnd_k zp rfl)
    · rw [if_neg c26] at hT hN ⊢
      rw [if_neg c26]
      have hb : hasB kd := ⟨by omega, c25, c26⟩
      have kb : trK (f + 1) tb := hK.2.2.2.2.1 hb
      have wb : trW (f + 1) tb := hW.2 hb
      have pb : trP (f + 1) tb := hp3 (by show 26 < kd; omega)
      have t0 : tk k = 22 := hT.hd.1
      have tA := hT.tl.l
      have t1 : tk (k + 1 + (tkL (f + 1) ta).length) = 23 := hT.tl.r.hd.1
      have t2 : tk (k + 1 + (tkL (f + 1) ta).length + 1) = kd - 11 := hT.tl.r.tl.hd.1
      have t3 : tk (k + 1 + (tkL (f + 1) ta).length + 1 + 1) = 22 := hT.tl.r.tl.tl.hd.1
      have tB := hT.tl.r.tl.tl.tl.l
      have t4 : tk (k + 1 + (tkL (f + 1) ta).length + 1 + 1 + 1 + (tkL (f + 1) tb).length) = 23 := hT.tl.r.tl.tl.tl.r.hd.1
      have za := ih ta (H2 + 1) (k + 1) ka wa pa (by omega) (by omega) tA (nTS_c t1 (by decide))
      have zb := ih tb (H2 + 1) (k + 1 + (tkL (f + 1) ta).length + 1 + 1 + 1) kb wb pb (by omega) (by omega) tB (nTS_c t4 (by decide))
      have va := p1_par (H := H2 + 1) (by omega) t0 za t1
      have vb := p1_par (H := H2 + 1) (by omega) t3 zb t4
      have el : k + ((22, 0) :: (tkL (f + 1) ta ++ (23, 0) :: (kd - 11, 0) :: (22, 0) :: (tkL (f + 1) tb ++ [(23, 0)])) : List (Nat × Nat)).length = k + 1 + (tkL (f + 1) ta).length + 1 + 1 + 1 + (tkL (f + 1) tb).length + 1 := by simp only [List.length_cons, List.length_append, List.length_nil]; omega
      rw [el] at hN ⊢
      rw [List.append_assoc]
      by_cases c27 : kd = 27
      · subst c27
        have z := chW_2 (tk := tk) (op := opA) va (by rw [t2]; decide) vb hN.2.1
        rw [t2] at z
        exact chW_1 z hN.1
      · have c28 : kd = 28 := by omega
        subst c28
        have qa := chW_1 (tk := tk) (op := opA) va (by rw [t2]; decide)
        have qb := chW_1 (tk := tk) (op := opA) vb hN.2.1
        have z := chW_2 (tk := tk) (op := opO) qa (by rw [t2]; decide) qb hN.1
        rw [t2] at z
        exact z
theorem smT_S : ∀ (f : Nat) (x : Int32) (d : Nat), trS f (smT f x d) := by
  intro f
  induction f with
  | zero => intro x d; exact trivial
  | succ f ih => intro x d; exact ⟨smK_lt, fun _ => ih _ _, fun _ => ih _ _⟩
theorem tsT_P : ∀ (f : Nat) (x : Int32) (d : Nat), d ≤ 2 → 3 ≤ f + d → trP (f + 1) (tsT (f + 1) x d) := by
  intro f
  induction f with
  | zero => intro x d h1 h2; omega
  | succ f ih =>
    intro x d h1 h2
    have e : tsT (f + 2) x d = ((tsK x d, 0), if tsK x d < 25 then (smT (f + 1) (x * 3 + 7) (d + 1), smT (f + 1) (x * 5 + 1) (d + 1)) else (tsT (f + 1) (x * 3 + 5) (d + 1), tsT (f + 1) (x * 7 + 3) (d + 1))) := rfl
    rw [e]
    have hd : 25 < tsK x d → d ≤ 1 := fun z => Nat.not_lt.mp (fun h => by have := tsK_d (x := x) h; omega)
    by_cases c : tsK x d < 25
    · rw [if_pos c]
      exact ⟨tsK_lt.1, tsK_lt.2, fun _ => ⟨smT_S _ _ _, smT_S _ _ _⟩, fun z => absurd (show 25 < tsK x d from z) (by omega), fun z => absurd (show 26 < tsK x d from z) (by omega)⟩
    · rw [if_neg c]
      exact ⟨tsK_lt.1, tsK_lt.2, fun z => absurd (show tsK x d < 25 from z) c, fun z => ih _ _ (by have := hd z; omega) (by omega), fun z => ih _ _ (by have := hd (Nat.lt_of_succ_lt z); omega) (by omega)⟩
/-- the tests of a rule, parsed -/
theorem par_rule {x : Int32} {k : Nat} (hT : tkAt tk num k (tkL 4 (tsT 4 x 0))) (hN : nTS tk (k + (tkL 4 (tsT 4 x 0)).length)) : pT tk num k = (true, k + (tkL 4 (tsT 4 x 0)).length, trC 4 (tsT 4 x 0)) :=
  par_test 3 (tsT 4 x 0) 8 k (tsT_K _ _ _) (tsT_W 3 x 0 (by decide) (by decide)) (tsT_P 3 x 0 (by decide) (by decide)) (Nat.le_refl _) (by decide) hT hN
end XPT
