/-! WAYS TO PAIR: the same by hand and in the class -/
section XWP
variable {n : Nat} {k j i q s e t d p : Nat} {met met' : Nat → Nat → Bool}
theorem mnv_c {t t' : Nat → Bool} {g g' : Nat → Nat} : ∀ d b acc, (∀ j, b ≤ j → j < b + d → t j = t' j ∧ (t j = true → g j = g' j)) → mnv t g d b acc = mnv t' g' d b acc := by
  intro d
  induction d with
  | zero => intro b acc _; rfl
  | succ d ih =>
    intro b acc h
    obtain ⟨h1, h2⟩ := h b (Nat.le_refl _) (by omega)
    show mnv t g d (b + 1) (if t b = true then (if g b < acc then g b else acc) else acc) = mnv t' g' d (b + 1) (if t' b = true then (if g' b < acc then g' b else acc) else acc)
    rw [ih (b + 1) _ (fun j j1 j2 => h j (by omega) (by omega)), ← h1]
    by_cases c : t b = true
    · rw [if_pos c, if_pos c, h2 c]
    · rw [if_neg c, if_neg c]
theorem secG_c {t t' : Nat → Bool} {g g' : Nat → Nat} {w a : Nat} : ∀ d b, (∀ j, b ≤ j → j < b + d → t j = t' j ∧ (t j = true → g j = g' j)) → secG t g w a d b = secG t' g' w a d b := by
  intro d
  induction d with
  | zero => intro b _; rfl
  | succ d ih =>
    intro b h
    obtain ⟨h1, h2⟩ := h b (Nat.le_refl _) (by omega)
    show (if t b = true ∧ g b = w then b else secG t g w a d (b + 1)) = if t' b = true ∧ g' b = w then b else secG t' g' w a d (b + 1)
    rw [ih (b + 1) (fun j j1 j2 => h j (by omega) (by omega)), ← h1]
    by_cases c : t b = true
    · rw [h2 c]
    · rw [if_neg (fun z => c z.1), if_neg (fun z => c z.1)]
theorem mr_c (hk : k ≤ 12) (h : ∀ a b, a < k → b < k → met a b = met' a b) : ∀ p s, s < 2 ^ k → pcn s 12 = 2 * p → mr met k p s = mr met' k p s := by
  intro p
  induction p with
  | zero => intro s _ _; rfl
  | succ p ih =>
    intro s hs hp
    obtain ⟨h0, h1, h2, h3, h4⟩ := ev_step hk hs hp
    refine mnv_c _ _ _ (fun b b1 b2 => ⟨rfl, fun hb => ?_⟩)
    obtain ⟨g1, g2, g3, -, g4⟩ := h4 b hb
    show mr met k p (clr (clr s (low s)) b) + (if met (low s) b = true then 1 else 0) = mr met' k p (clr (clr s (low s)) b) + (if met' (low s) b = true then 1 else 0)
    rw [ih _ g3 g4, h _ _ h2 g2]
theorem prt_c (hk : k ≤ 12) (h : ∀ a b, a < k → b < k → met a b = met' a b) (hs : s < 2 ^ k) (hp : pcn s 12 = 2 * (p + 1)) : prt met k p s = prt met' k p s := by
  obtain ⟨h0, h1, h2, h3, h4⟩ := ev_step hk hs hp
  unfold prt
  rw [mr_c hk h (p + 1) s hs hp]
  refine secG_c _ _ (fun b b1 b2 => ⟨rfl, fun hb => ?_⟩)
  obtain ⟨g1, g2, g3, -, g4⟩ := h4 b hb
  show mr met k p (clr (clr s (low s)) b) + (if met (low s) b = true then 1 else 0) = mr met' k p (clr (clr s (low s)) b) + (if met' (low s) b = true then 1 else 0)
  rw [mr_c hk h _ _ g3 g4, h _ _ h2 g2]
theorem prM_c (hk : k ≤ 12) (h : ∀ a b, a < k → b < k → met a b = met' a b) : ∀ p, p ≤ 6 → ∀ s q, s < 2 ^ k → pcn s 12 = 2 * p → prM met k p s q = prM met' k p s q := by
  intro p
  induction p with
  | zero => intro _ s q _ _; rfl
  | succ p ih =>
    intro h6 s q hs hp
    have e := prt_c hk h hs hp
    obtain ⟨g1, -⟩ := prt_spec (met := met') hk hs hp (by omega)
    obtain ⟨-, -, -, -, h4⟩ := ev_step hk hs hp
    obtain ⟨-, -, q1, -, q2⟩ := h4 _ g1
    show (if q = low s then prt met k p s else if q = prt met k p s then low s else prM met k p (clr (clr s (low s)) (prt met k p s)) q) = if q = low s then prt met' k p s else if q = prt met' k p s then low s else prM met' k p (clr (clr s (low s)) (prt met' k p s)) q
    rw [e, ih (by omega) _ q q1 q2]
theorem tb_clr {s b q : Nat} : (clr s b).testBit q = true ↔ s.testBit q = true ∧ ¬ q = b := by
  rw [clr_t]
  simp
/-- the pair i: its first place, its second one -/
abbrev loA (met : Nat → Nat → Bool) (k np i : Nat) : Nat := low (setAt met k np i)
abbrev prA (met : Nat → Nat → Bool) (k np i : Nat) : Nat := prt met k (np - (i + 1)) (setAt met k np i)
section
variable {np : Nat}
theorem lp_1 (h12 : k ≤ 12) (hk : k = 2 * np) (hi : i < np) : loA met k np i < prA met k np i ∧ prA met k np i < k ∧ (setAt met k np i).testBit (loA met k np i) = true ∧ (setAt met k np i).testBit (prA met k np i) = true ∧ (∀ j, (setAt met k np i).testBit j = true → loA met k np i ≤ j) ∧ ∀ q, (setAt met k np (i + 1)).testBit q = true ↔ (setAt met k np i).testBit q = true ∧ ¬ q = loA met k np i ∧ ¬ q = prA met k np i := by
  obtain ⟨h1, h2⟩ := setAt_ok (met := met) h12 hk i (by omega)
  have h3 : pcn (setAt met k np i) 12 = 2 * ((np - (i + 1)) + 1) := by omega
  obtain ⟨g1, -, g3, g4, -⟩ := prt_spec (met := met) h12 h1 h3 (by omega)
  obtain ⟨e0, e1, e2, -, -⟩ := ev_step h12 h1 h3
  obtain ⟨f1, f2, f3⟩ := low_spec h1 h12 e0
  refine ⟨g3, g4, e1, (tb_clr.mp g1).1, fun j hj => ?_, fun q => ?_⟩
  · apply Classical.byContradiction
    intro z
    rw [f3 j (Nat.lt_of_not_le z)] at hj
    cases hj
  · show (clr (clr (setAt met k np i) (low (setAt met k np i))) (prt met k (np - (i + 1)) (setAt met k np i))).testBit q = true ↔ _
    rw [tb_clr, tb_clr]
    exact ⟨fun z => ⟨z.1.1, z.1.2, z.2⟩, fun z => ⟨⟨z.1, z.2.1⟩, z.2.2⟩⟩
theorem sA_mono (h12 : k ≤ 12) (hk : k = 2 * np) {j : Nat} : ∀ i, j ≤ i → i ≤ np → ∀ q, (setAt met k np i).testBit q = true → (setAt met k np j).testBit q = true := by
  intro i
  induction i with
  | zero => intro h _ q hq; have e : j = 0 := by omega
            subst e; exact hq
  | succ i ih =>
    intro h1 h2 q hq
    by_cases c : j = i + 1
    · subst c; exact hq
    · exact ih (by omega) (by omega) q (((lp_1 h12 hk (by omega)).2.2.2.2.2 q).mp hq).1
/-- whoever stands behind the pair i is not in it -/
theorem sA_out (h12 : k ≤ 12) (hk : k = 2 * np) (hij : i < j) (hj : j ≤ np) (hq : (setAt met k np j).testBit q = true) : ¬ q = loA met k np i ∧ ¬ q = prA met k np i ∧ loA met k np i < q := by
  have h := sA_mono h12 hk j (j := i + 1) (by omega) hj q hq
  obtain ⟨g1, g2, g3, g4, g5, g6⟩ := lp_1 (met := met) h12 hk (show i < np by omega)
  have z := (g6 q).mp h
  have := g5 q z.1
  exact ⟨z.2.1, z.2.2, by omega⟩
theorem prM_s (h12 : k ≤ 12) (hk : k = 2 * np) : ∀ i, i ≤ np → ∀ q, (setAt met k np i).testBit q = true → prM met k np (2 ^ k - 1) q = prM met k (np - i) (setAt met k np i) q := by
  intro i
  induction i with
  | zero => intro _ q _; rfl
  | succ i ih =>
    intro hi q hq
    obtain ⟨z1, z2, z3⟩ := ((lp_1 h12 hk (by omega)).2.2.2.2.2 q).mp hq
    rw [ih (by omega) q z1, show np - i = np - (i + 1) + 1 by omega]
    show (if q = loA met k np i then prA met k np i else if q = prA met k np i then loA met k np i else prM met k (np - (i + 1)) (setAt met k np (i + 1)) q) = _
    rw [if_neg z2, if_neg z3]
theorem prM_p (h12 : k ≤ 12) (hk : k = 2 * np) (hi : i < np) : prM met k np (2 ^ k - 1) (loA met k np i) = prA met k np i ∧ prM met k np (2 ^ k - 1) (prA met k np i) = loA met k np i := by
  obtain ⟨g1, g2, g3, g4, g5, g6⟩ := lp_1 (met := met) h12 hk hi
  have e : ∀ q, prM met k (np - i) (setAt met k np i) q = if q = loA met k np i then prA met k np i else if q = prA met k np i then loA met k np i else prM met k (np - (i + 1)) (setAt met k np (i + 1)) q := fun q => by
    rw [show np - i = np - (i + 1) + 1 by omega]; rfl
  rw [prM_s h12 hk i (by omega) _ g3, prM_s h12 hk i (by omega) _ g4, e, e, if_pos rfl, if_neg (by omega), if_pos rfl]
  exact ⟨rfl, rfl⟩
theorem lp_all (h12 : k ≤ 12) (hk : k = 2 * np) (hq : q < k) : ∃ i, i < np ∧ (q = loA met k np i ∨ q = prA met k np i) := by
  have h : ∀ i, i ≤ np → (setAt met k np i).testBit q = true ∨ ∃ j, j < i ∧ (q = loA met k np j ∨ q = prA met k np j) := by
    intro i
    induction i with
    | zero => intro _; exact Or.inl (full_t hq)
    | succ i ih =>
      intro hi
      rcases ih (by omega) with z | ⟨j, j1, j2⟩
      · by_cases c1 : q = loA met k np i
        · exact Or.inr ⟨i, by omega, Or.inl c1⟩
        by_cases c2 : q = prA met k np i
        · exact Or.inr ⟨i, by omega, Or.inr c2⟩
        exact Or.inl (((lp_1 h12 hk (by omega)).2.2.2.2.2 q).mpr ⟨z, c1, c2⟩)
      · exact Or.inr ⟨j, by omega, j2⟩
  rcases h np (Nat.le_refl _) with z | z
  · exfalso
    obtain ⟨h1, h2⟩ := setAt_ok (met := met) h12 hk np (Nat.le_refl _)
    have h3 := pcn_clr z 12 (by omega)
    omega
  · exact z
/-- the places of two pairs differ -/
theorem lp_ne (h12 : k ≤ 12) (hk : k = 2 * np) (hij : i < j) (hj : j < np) : loA met k np i < loA met k np j ∧ ¬ prA met k np i = loA met k np j ∧ ¬ loA met k np i = prA met k np j ∧ ¬ prA met k np i = prA met k np j := by
  obtain ⟨g1, g2, g3, g4, g5, g6⟩ := lp_1 (met := met) h12 hk hj
  obtain ⟨a1, a2, a3⟩ := sA_out (met := met) h12 hk hij (by omega) g3
  obtain ⟨b1, b2, b3⟩ := sA_out (met := met) h12 hk hij (by omega) g4
  exact ⟨a3, fun z => a2 z.symm, fun z => b1 z.symm, fun z => b2 z.symm⟩
end
/-- lists in order that hold the same are the same -/
theorem asc_eq : ∀ {a c : List Nat}, a.Pairwise (· < ·) → c.Pairwise (· < ·) → (∀ x, x ∈ a ↔ x ∈ c) → a = c := by
  intro a
  induction a with
  | nil =>
    intro c _ _ h
    cases c with
    | nil => rfl
    | cons y c => exact absurd ((h y).mpr List.mem_cons_self) List.not_mem_nil
  | cons x a ih =>
    intro c ha hc h
    cases c with
    | nil => exact absurd ((h x).mp List.mem_cons_self) List.not_mem_nil
    | cons y c =>
      rw [List.pairwise_cons] at ha hc
      have e : x = y := by
        rcases List.mem_cons.mp ((h x).mp List.mem_cons_self) with z | z
        · exact z
        · rcases List.mem_cons.mp ((h y).mpr List.mem_cons_self) with z2 | z2
          · exact z2.symm
          · have := hc.1 x z
            have := ha.1 y z2
            omega
      subst e
      rw [ih ha.2 hc.2 (fun w => ⟨fun hw => ?_, fun hw => ?_⟩)]
      · rcases List.mem_cons.mp ((h w).mp (List.mem_cons_of_mem _ hw)) with z | z
        · have := ha.1 w hw; omega
        · exact z
      · rcases List.mem_cons.mp ((h w).mpr (List.mem_cons_of_mem _ hw)) with z | z
        · have := hc.1 w hw; omega
        · exact z
/-- the places that come first are the lows -/
theorem prl_eq {np : Nat} (h12 : k ≤ 12) (hk : k = 2 * np) : (List.range k).filter (fun q => decide (q ≤ prM met k np (2 ^ k - 1) q)) = (List.range np).map (fun i => loA met k np i) := by
  refine asc_eq (List.Pairwise.filter _ List.pairwise_lt_range) ?_ (fun x => ?_)
  · rw [List.pairwise_map]
    refine List.Pairwise.imp_of_mem (fun {a b} ha hb hab => ?_) List.pairwise_lt_range
    exact (lp_ne h12 hk hab (List.mem_range.mp hb)).1
  · rw [List.mem_filter, List.mem_range, List.mem_map, decide_eq_true_eq]
    constructor
    · rintro ⟨hx, h⟩
      obtain ⟨i, hi, z | z⟩ := lp_all (met := met) h12 hk hx
      · exact ⟨i, List.mem_range.mpr hi, z.symm⟩
      · exfalso
        have e := (prM_p (met := met) h12 hk hi).2
        rw [← z] at e
        have := (lp_1 (met := met) h12 hk hi).1
        omega
    · rintro ⟨i, hi, rfl⟩
      have hi := List.mem_range.mp hi
      obtain ⟨g1, g2, -⟩ := lp_1 (met := met) h12 hk hi
      rw [(prM_p (met := met) h12 hk hi).1]
      exact ⟨by show loA met k np i < k; omega, by show loA met k np i ≤ prA met k np i; omega⟩
/-- the last one of the least -/
def lsL (r : Nat → Int32) (m x : Nat) : Prop := x < m ∧ ∀ y, y < m → (r x).toInt ≤ (r y).toInt ∧ (x < y → (r x).toInt < (r y).toInt)
theorem lsL_u {r : Nat → Int32} {m x y : Nat} (hx : lsL r m x) (hy : lsL r m y) : x = y := by
  have h1 := hx.2 y hy.1
  have h2 := hy.2 x hx.1
  rcases Nat.lt_trichotomy x y with c | c | c
  · have := h1.2 c; omega
  · exact c
  · have := h2.2 c; omega
theorem chs_L {r : Nat → Int32} : ∀ m, 0 < m → lsL r m (chs r m) := by
  intro m
  induction m with
  | zero => intro h; omega
  | succ m ih =>
    intro _
    show lsL r (m + 1) (if m = 0 then 0 else if r m ≤ r (chs r m) then m else chs r m)
    by_cases c0 : m = 0
    · subst c0
      rw [if_pos rfl]
      refine ⟨by omega, fun y hy => ?_⟩
      have e : y = 0 := by omega
      subst e
      exact ⟨Int.le_refl _, fun z => by omega⟩
    rw [if_neg c0]
    obtain ⟨h1, h2⟩ := ih (by omega)
    by_cases c : r m ≤ r (chs r m)
    · rw [if_pos c]
      rw [i_le] at c
      refine ⟨by omega, fun y hy => ?_⟩
      by_cases e : y = m
      · subst e; exact ⟨Int.le_refl _, fun z => by omega⟩
      · have := (h2 y (by omega)).1
        exact ⟨by omega, fun z => by omega⟩
    · rw [if_neg c]
      rw [i_le] at c
      refine ⟨by omega, fun y hy => ?_⟩
      by_cases e : y = m
      · subst e; exact ⟨by omega, fun z => by omega⟩
      · exact h2 y (by omega)
theorem cdn_L {r : Nat → Int32} {m : Nat} : ∀ d p, d ≤ p → p < m → (∀ y, d ≤ y → y < m → (r p).toInt ≤ (r y).toInt ∧ (p < y → (r p).toInt < (r y).toInt)) → lsL r m (cdn r p d) := by
  intro d
  induction d with
  | zero => intro p _ hp h; exact ⟨hp, fun y hy => h y (Nat.zero_le _) hy⟩
  | succ d ih =>
    intro p hd hp h
    rw [cdn_s]
    by_cases c : r d < r p
    · rw [if_pos c]
      rw [i_lt] at c
      refine ih d (Nat.le_refl _) (by omega) (fun y y1 y2 => ?_)
      by_cases e : y = d
      · subst e; exact ⟨Int.le_refl _, fun z => by omega⟩
      · have := (h y (by omega) y2).1
        exact ⟨by omega, fun z => by omega⟩
    · rw [if_neg c]
      rw [i_lt] at c
      refine ih p (by omega) hp (fun y y1 y2 => ?_)
      by_cases e : y = d
      · subst e; exact ⟨by omega, fun z => by omega⟩
      · exact h y (by omega) y2
theorem cdn_chs {r : Nat → Int32} {m : Nat} (h0 : 0 < m) : cdn r (m - 1) (m - 1) = chs r m :=
  lsL_u (cdn_L (m := m) (m - 1) (m - 1) (Nat.le_refl _) (by omega) (fun y y1 y2 => by
    have e : y = m - 1 := by omega
    subst e
    exact ⟨Int.le_refl _, fun z => by omega⟩)) (chs_L m h0)
end XWP
