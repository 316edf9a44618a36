/-! Sim.pair -/
section XSP
variable {G : xx_G} {l : Launch} {A A' : xx_H} {n : Nat} {k j i q s e t d : Nat}
/-- the best pairing pairs those of the set, each with one other -/
theorem prM_ok {met : Nat → Nat → Bool} (h12 : k ≤ 12) : ∀ p, p ≤ 6 → ∀ s q, s < 2 ^ k → pcn s 12 = 2 * p → s.testBit q = true → prM met k p s q < k ∧ s.testBit (prM met k p s q) = true ∧ prM met k p s (prM met k p s q) = q ∧ ¬ prM met k p s q = q := by
  intro p
  induction p with
  | zero => intro _ s q hs hp hq; rw [pcn_zero (k := 12) (Nat.lt_of_lt_of_le hs (Nat.pow_le_pow_right (by decide) h12)) hp] at hq; simp at hq
  | succ p ih =>
    intro hp6 s q hs hp hq
    obtain ⟨f1, f2, f3, f4, f5⟩ := ev_step h12 hs hp
    obtain ⟨g1, g2, g3, g4, g5⟩ := prt_spec (met := met) h12 hs hp hp6
    obtain ⟨a1, a2, a3, a4, a5⟩ := f5 _ g1
    have hpt : s.testBit (prt met k p s) = true := by
      have z : (clr s (low s)).testBit (prt met k p s) = true := g1
      rw [clr_t, Bool.and_eq_true] at z
      exact z.1
    have hu : ∀ x, prM met k (p + 1) s x = if x = low s then prt met k p s else if x = prt met k p s then low s else prM met k p (clr (clr s (low s)) (prt met k p s)) x := fun _ => rfl
    by_cases c1 : q = low s
    · rw [hu q, if_pos c1]
      refine ⟨g4, hpt, ?_, by omega⟩
      rw [hu, if_neg (by omega), if_pos rfl, c1]
    · by_cases c2 : q = prt met k p s
      · rw [hu q, if_neg c1, if_pos c2]
        refine ⟨f3, f2, ?_, by omega⟩
        rw [hu, if_pos rfl, c2]
      · rw [hu q, if_neg c1, if_neg c2]
        have hq2 : (clr (clr s (low s)) (prt met k p s)).testBit q = true := by rw [clr_t, clr_t, hq]; simp [c1, c2]
        obtain ⟨b1, b2, b3, b4⟩ := ih (by omega) _ q a3 a5 hq2
        generalize hr : prM met k p (clr (clr s (low s)) (prt met k p s)) q = r at b1 b2 b3 b4
        rw [clr_t, clr_t] at b2
        simp only [Bool.and_eq_true, Bool.not_eq_true', decide_eq_false_iff_not] at b2
        refine ⟨b1, b2.1.1, ?_, b4⟩
        rw [hu, if_neg b2.1.2, if_neg b2.2]
        exact b3
/-- whom the place q meets -/
abbrev mtP (S : sS) (f : Nat → Int32) (k q : Nat) : Nat := prM (metS S f) k (k / 2) (2 ^ k - 1) q
theorem mtP_ok {S : sS} {f : Nat → Int32} (h12 : k ≤ 12) (he : k % 2 = 0) {q : Nat} (hq : q < k) : mtP S f k q < k ∧ mtP S f k (mtP S f k q) = q ∧ ¬ mtP S f k q = q := by
  obtain ⟨h1, -, h2, h3⟩ := prM_ok (met := metS S f) h12 (k / 2) (by omega) (2 ^ k - 1) q (Nat.sub_lt (Nat.pow_pos (by decide)) (by decide)) (by rw [full_p h12]; omega) (full_t hq)
  exact ⟨h1, h2, h3⟩
/-- the places that come first in their pairs -/
abbrev prL (S : sS) (f : Nat → Int32) (k i : Nat) : List Nat := (List.range i).filter (fun q => decide (q ≤ mtP S f k q))
theorem prL_s {S : sS} {f : Nat → Int32} {k i : Nat} : prL S f k (i + 1) = if i ≤ mtP S f k i then prL S f k i ++ [i] else prL S f k i := by
  unfold prL
  rw [List.range_succ, List.filter_append]
  by_cases hi : i ≤ mtP S f k i
  · rw [if_pos hi, List.filter_cons_of_pos (by simpa using hi), List.filter_nil]
  · rw [if_neg hi, List.filter_cons_of_neg (by simpa using hi), List.filter_nil, List.append_nil]
theorem prL_len {S : sS} {f : Nat → Int32} {k i : Nat} : (prL S f k i).length ≤ i := Nat.le_trans (List.length_filter_le _ _) (Nat.le_of_eq List.length_range)
/-- whether a is red -/
abbrev rdB (S : sS) (a b : Int32) : Prop := (¬ blS S a = blS S b ∧ blS S a < blS S b) ∨ (blS S a = blS S b ∧ (wbS S b (S.2.2 1) = 0 ∨ ¬ wbS S a (S.2.2 1) = 0))
/-- who floats -/
abbrev flB (S : sS) (a b : Int32) : Int32 := if ptS S b < ptS S a then a else if ptS S a < ptS S b then b else -1
/-- a new bout -/
def nbF (S : sS) (a b : Int32) : Nat → Int32 := upd (upd (upd (upd (upd (fun _ => 0) 0 (S.1 5)) 1 (if rdB S a b then a else b)) 2 (if rdB S a b then b else a)) 3 (-1)) 4 (flB S a b)
/-- what pair makes of S -/
def prS (S S' : sS) (f : Nat → Int32) (m k : Nat) : Prop := S'.1 0 = S.1 0 ∧ S'.1 5 = S.1 5 + 1 ∧ (∀ q, q < 8 → S'.2.1 q = S.2.1 q) ∧ S'.2.2 4 = S.2.2 4 ∧ S'.2.2 5 = S.2.2 5 ∧ S'.2.2 6 = S.2.2 6 ∧ S'.2.2 1 = S.2.2 1 + (prL S f k k).length ∧ (∀ i, i < S.2.2 1 → bt S' i = bt S i ∧ S'.2.2 (10 + i) = S.2.2 (10 + i)) ∧ (∀ p, p < (prL S f k k).length → bt S' (S.2.2 1 + p) = nbF S (f ((prL S f k k).getD p 0)) (f (mtP S f k ((prL S f k k).getD p 0)))) ∧ S'.2.2 3 = S.2.2 3 + 1 ∧ (∀ i, i < S.2.2 3 → S'.2.1 8 i = S.2.1 8 i) ∧ S'.2.1 8 (S.2.2 3) = if k < m then f k else -1
def prQ (S : sS) (h nw n : Nat) (A : xx_H) : xx_Q := fun r A' n' => r = .inl none ∧ ∃ (ls : List Nat) (f : Nat → Int32) (S' : sS), srt (sR S) nw ls ∧ (∀ p, p < (inS S ls).length → f p = nI (rwL S (inS S ls) p)) ∧ simW h S' A' ∧ simX S' ∧ (S'.2.2 0 = S.2.2 0 ∨ n ≤ S'.2.2 0) ∧ n ≤ S'.2.2 2 ∧ (∀ i, i < S.2.2 1 → S'.2.2 (10 + i) < n) ∧ (∀ i, S.2.2 1 ≤ i → i < S'.2.2 1 → n ≤ S'.2.2 (10 + i)) ∧ prS S S' f (inS S ls).length ((inS S ls).length - (inS S ls).length % 2) ∧ ∀ z, z < n → ¬ z = h → A' z = A z
/-- the bouts made so far -/
def mdI (S : sS) (f : Nat → Int32) (k n n1 v i : Nat) (hd : Nat → Nat) (A : xx_H) : Prop := (∃ g, A v = some (.inl (3, (prL S f k i).length, .inr (.inr (.inr (.inr g))))) ∧ ∀ p, p < (prL S f k i).length → g p = some (hd p)) ∧ (∀ p, p < (prL S f k i).length → n ≤ hd p ∧ hd p < n1 ∧ A (hd p) = some (.inl (0, 5, .inl (nbF S (f ((prL S f k i).getD p 0)) (f (mtP S f k ((prL S f k i).getD p 0))))))) ∧ ∀ p q, p < (prL S f k i).length → q < (prL S f k i).length → hd p = hd q → p = q
theorem mdI_st {S : sS} {f : Nat → Int32} {n n1 v i : Nat} {hd : Nat → Nat} {g : Nat → Option Nat} (h : mdI S f k n n1 v i hd A) (lt : ∀ z c, A z = some c → z < n1) (hi : i ≤ mtP S f k i) (hn : n ≤ n1) (h1 : A' (n1 + 1) = some (.inl (3, (prL S f k i).length + 1, .inr (.inr (.inr (.inr g)))))) (h2 : ∀ g0, A v = some (.inl (3, (prL S f k i).length, .inr (.inr (.inr (.inr g0))))) → ∀ p, p < (prL S f k i).length → g p = g0 p) (h3 : g (prL S f k i).length = some n1) (h4 : A' n1 = some (.inl (0, 5, .inl (nbF S (f i) (f (mtP S f k i)))))) (h5 : ∀ z, z < n1 → A' z = A z) : mdI S f k n (n1 + 1 + 1) (n1 + 1) (i + 1) (fun p => if p < (prL S f k i).length then hd p else n1) A' := by
  obtain ⟨⟨g0, a1, a2⟩, a3, a4⟩ := h
  have hL : prL S f k (i + 1) = prL S f k i ++ [i] := by rw [prL_s, if_pos hi]
  have hl : (prL S f k (i + 1)).length = (prL S f k i).length + 1 := by rw [hL, List.length_append]; rfl
  refine ⟨⟨g, by rw [hl]; exact h1, fun p hp => ?_⟩, fun p hp => ?_, fun p q hp hq e => ?_⟩
  · rw [hl] at hp
    by_cases c : p < (prL S f k i).length
    · show g p = some (if p < (prL S f k i).length then hd p else n1)
      rw [if_pos c, h2 g0 a1 p c]; exact a2 p c
    · show g p = some (if p < (prL S f k i).length then hd p else n1)
      rw [if_neg c, show p = (prL S f k i).length from by omega]; exact h3
  · rw [hl] at hp
    rw [hL, getD_snoc]
    by_cases c : p < (prL S f k i).length
    · show n ≤ (if p < (prL S f k i).length then hd p else n1) ∧ (if p < (prL S f k i).length then hd p else n1) < n1 + 1 + 1 ∧ A' (if p < (prL S f k i).length then hd p else n1) = _
      rw [if_pos c, if_pos c]
      obtain ⟨b1, b2, b3⟩ := a3 p c
      exact ⟨b1, by omega, (h5 _ b2).trans b3⟩
    · show n ≤ (if p < (prL S f k i).length then hd p else n1) ∧ (if p < (prL S f k i).length then hd p else n1) < n1 + 1 + 1 ∧ A' (if p < (prL S f k i).length then hd p else n1) = _
      rw [if_neg c, if_neg c, if_pos (show p = (prL S f k i).length from by omega)]
      exact ⟨hn, by omega, h4⟩
  · rw [hl] at hp hq
    have e : (if p < (prL S f k i).length then hd p else n1) = (if q < (prL S f k i).length then hd q else n1) := e
    by_cases c : p < (prL S f k i).length
    · by_cases c2 : q < (prL S f k i).length
      · rw [if_pos c, if_pos c2] at e; exact a4 p q c c2 e
      · rw [if_pos c, if_neg c2] at e; have := (a3 p c).2.1; omega
    · by_cases c2 : q < (prL S f k i).length
      · rw [if_neg c, if_pos c2] at e; have := (a3 q c2).2.1; omega
      · omega
theorem mdI_sk {S : sS} {f : Nat → Int32} {n n1 v i : Nat} {hd : Nat → Nat} (h : mdI S f k n n1 v i hd A) (hi : ¬ i ≤ mtP S f k i) : mdI S f k n n1 v (i + 1) hd A := by
  have hL : prL S f k (i + 1) = prL S f k i := by rw [prL_s, if_neg hi]
  unfold mdI
  rw [hL]
  exact h
/-- more bouts: rows gs at hd, the row of all at a -/
def apT (S : sS) (gs : Nat → Nat → Int32) (hd : Nat → Nat) (a i : Nat) : sS := (S.1, fun q => if q < 10 + S.2.2 1 then S.2.1 q else gs (q - (10 + S.2.2 1)), fun q => if q = 0 then a else if q = 1 then S.2.2 1 + i else if q < 10 + S.2.2 1 then S.2.2 q else hd (q - (10 + S.2.2 1)))
section
variable {S : sS} {gs : Nat → Nat → Int32} {hd : Nat → Nat} {a : Nat}
theorem apT_r (h : q < 10 + S.2.2 1) : (apT S gs hd a i).2.1 q = S.2.1 q := if_pos h
theorem apT_n : (apT S gs hd a i).2.1 (10 + (S.2.2 1 + q)) = gs q := by
  show (if 10 + (S.2.2 1 + q) < 10 + S.2.2 1 then S.2.1 (10 + (S.2.2 1 + q)) else gs (10 + (S.2.2 1 + q) - (10 + S.2.2 1))) = _
  rw [if_neg (by omega), show 10 + (S.2.2 1 + q) - (10 + S.2.2 1) = q from by omega]
theorem apT_h (h0 : 2 ≤ q) (h : q < 10 + S.2.2 1) : (apT S gs hd a i).2.2 q = S.2.2 q := by
  show (if q = 0 then a else if q = 1 then S.2.2 1 + i else if q < 10 + S.2.2 1 then S.2.2 q else hd (q - (10 + S.2.2 1))) = _
  rw [if_neg (by omega), if_neg (by omega), if_pos h]
theorem apT_d : (apT S gs hd a i).2.2 (10 + (S.2.2 1 + q)) = hd q := by
  show (if 10 + (S.2.2 1 + q) = 0 then a else if 10 + (S.2.2 1 + q) = 1 then S.2.2 1 + i else if 10 + (S.2.2 1 + q) < 10 + S.2.2 1 then S.2.2 (10 + (S.2.2 1 + q)) else hd (10 + (S.2.2 1 + q) - (10 + S.2.2 1))) = _
  rw [if_neg (by omega), if_neg (by omega), if_neg (by omega), show 10 + (S.2.2 1 + q) - (10 + S.2.2 1) = q from by omega]
theorem apT_w {h : Nat} : simW h (apT S gs hd a i) A ↔ A h = some (.inr (6, [.int (S.1 0), .ref (h + 1), .ref (h + 2), .ref (S.2.2 4), .ref (S.2.2 5), .int (S.1 5), .ref (h + 5), .ref a, .ref (S.2.2 2)])) ∧ A (h + 1) = some (.inl (0, 12, .inl (S.2.1 1))) ∧ A (h + 2) = some (.inl (0, 3, .inl (S.2.1 2))) ∧ A (h + 5) = some (.inl (2, 12, .inl (S.2.1 6))) ∧
  (∃ f, A a = some (.inl (3, S.2.2 1 + i, .inr (.inr (.inr (.inr f))))) ∧ (∀ q, q < S.2.2 1 → f q = some (S.2.2 (10 + q))) ∧ ∀ q, q < i → f (S.2.2 1 + q) = some (hd q)) ∧
  ((∀ q, q < S.2.2 1 → A (S.2.2 (10 + q)) = some (.inl (0, 5, .inl (S.2.1 (10 + q))))) ∧ ∀ q, q < i → A (hd q) = some (.inl (0, 5, .inl (gs q)))) ∧ A (S.2.2 2) = some (.inl (0, S.2.2 3, .inl (S.2.1 8))) := by
  have e4 : (apT S gs hd a i).2.2 4 = S.2.2 4 := apT_h (by decide) (by omega)
  have e5 : (apT S gs hd a i).2.2 5 = S.2.2 5 := apT_h (by decide) (by omega)
  have e2 : (apT S gs hd a i).2.2 2 = S.2.2 2 := apT_h (by decide) (by omega)
  have e3 : (apT S gs hd a i).2.2 3 = S.2.2 3 := apT_h (by decide) (by omega)
  have r1 : (apT S gs hd a i).2.1 1 = S.2.1 1 := apT_r (by omega)
  have r2 : (apT S gs hd a i).2.1 2 = S.2.1 2 := apT_r (by omega)
  have r6 : (apT S gs hd a i).2.1 6 = S.2.1 6 := apT_r (by omega)
  have r8 : (apT S gs hd a i).2.1 8 = S.2.1 8 := apT_r (by omega)
  unfold simW
  rw [e4, e5, e2, e3, r1, r2, r6, r8]
  refine and_congr Iff.rfl (and_congr Iff.rfl (and_congr Iff.rfl (and_congr Iff.rfl (and_congr ⟨fun ⟨f, h1, h2⟩ => ⟨f, h1, fun q hq => ?_, fun q hq => ?_⟩, fun ⟨f, h1, h2, h3⟩ => ⟨f, h1, fun q hq => ?_⟩⟩ (and_congr ⟨fun h1 => ⟨fun q hq => ?_, fun q hq => ?_⟩, fun ⟨h1, h2⟩ q hq => ?_⟩ Iff.rfl)))))
  · rw [h2 q (Nat.lt_of_lt_of_le hq (Nat.le_add_right _ i)), apT_h (by omega) (by omega)]
  · rw [h2 (S.2.2 1 + q) (Nat.add_lt_add_left hq _), apT_d]
  · have hq : q < S.2.2 1 + i := hq
    by_cases c : q < S.2.2 1
    · rw [h2 q c, apT_h (by omega) (by omega)]
    · have z := h3 (q - S.2.2 1) (by omega)
      rw [show S.2.2 1 + (q - S.2.2 1) = q from by omega] at z
      rw [z, show 10 + q = 10 + (S.2.2 1 + (q - S.2.2 1)) from by omega, apT_d]
  · have z := h1 q (Nat.lt_of_lt_of_le hq (Nat.le_add_right _ i))
    rw [apT_h (by omega) (by omega), apT_r (by omega)] at z
    exact z
  · have z := h1 (S.2.2 1 + q) (Nat.add_lt_add_left hq _)
    rw [apT_d, apT_n] at z
    exact z
  · have hq : q < S.2.2 1 + i := hq
    by_cases c : q < S.2.2 1
    · rw [apT_h (by omega) (by omega), apT_r (by omega)]; exact h1 q c
    · have z := h2 (q - S.2.2 1) (by omega)
      rw [show 10 + q = 10 + (S.2.2 1 + (q - S.2.2 1)) from by omega, apT_d, apT_n]
      exact z
theorem apT_0 {h : Nat} (hS : simW h S A) : simW h (apT S gs hd (S.2.2 0) 0) A := by
  obtain ⟨ho, p1, p2, p6, ⟨fa, pa, pf⟩, pb, pr⟩ := hS
  exact apT_w.mpr ⟨ho, p1, p2, p6, ⟨fa, pa, pf, fun q hq => absurd hq (Nat.not_lt_zero q)⟩, ⟨pb, fun q hq => absurd hq (Nat.not_lt_zero q)⟩, pr⟩
theorem apT_st {h n2 : Nat} {g fa : Nat → Option Nat} (hW : simW h (apT S gs hd a i) A) (lt : ∀ z c, A z = some c → z < n2) (hne : ∀ z c, A z = some c → z = h → c = .inr (6, [.int (S.1 0), .ref (h + 1), .ref (h + 2), .ref (S.2.2 4), .ref (S.2.2 5), .int (S.1 5), .ref (h + 5), .ref a, .ref (S.2.2 2)])) (hi : A (hd i) = some (.inl (0, 5, .inl (gs i)))) (ha : A a = some (.inl (3, S.2.2 1 + i, .inr (.inr (.inr (.inr fa)))))) (h1 : A' n2 = some (.inl (3, S.2.2 1 + i + 1, .inr (.inr (.inr (.inr g)))))) (q2 : ∀ p, p < S.2.2 1 + i → g p = fa p) (q3 : g (S.2.2 1 + i) = some (hd i)) (hob : A' h = some (.inr (6, [.int (S.1 0), .ref (h + 1), .ref (h + 2), .ref (S.2.2 4), .ref (S.2.2 5), .int (S.1 5), .ref (h + 5), .ref n2, .ref (S.2.2 2)]))) (u : ∀ z, z < n2 → ¬ z = h → A' z = A z) : simW h (apT S gs hd n2 (i + 1)) A' := by
  obtain ⟨ho, p1, p2, p6, ⟨fb, pa, pf, pf2⟩, ⟨pb, pb2⟩, pr⟩ := apT_w.mp hW
  have uu : ∀ z kd len x, A z = some (.inl (kd, len, x)) → A' z = A z := fun z kd len x hz => u z (lt _ _ hz) (fun e => by have := hne z _ hz e; cases this)
  have efb : fb = fa := by
    have z := pa.symm.trans ha
    cases z
    rfl
  subst efb
  refine apT_w.mpr ⟨hob, (uu _ _ _ _ p1).trans p1, (uu _ _ _ _ p2).trans p2, (uu _ _ _ _ p6).trans p6, ⟨g, h1, fun q hq => (q2 q (by omega)).trans (pf q hq), fun q hq => ?_⟩, ⟨fun q hq => (uu _ _ _ _ (pb q hq)).trans (pb q hq), fun q hq => ?_⟩, (uu _ _ _ _ pr).trans pr⟩
  · by_cases c : q < i
    · exact (q2 _ (by omega)).trans (pf2 q c)
    · rw [show q = i from by omega]; exact q3
  · by_cases c : q < i
    · exact (uu _ _ _ _ (pb2 q c)).trans (pb2 q c)
    · rw [show q = i from by omega]; exact (uu _ _ _ _ hi).trans hi
end
def rsU (T : sS) (w : Nat) (g : Nat → Int32) : sS := (va_up T.1 5 (T.1 5 + 1), va_up T.2.1 8 g, va_up (va_up T.2.2 2 w) 3 (T.2.2 3 + 1))
theorem pr_fin {h nw m k n n1 n3 a P : Nat} {S : sS} {ls : List Nat} {f g : Nat → Int32} {gs : Nat → Nat → Int32} {hd : Nat → Nat} {A1 A2 A8 A6 : xx_H} (ha : a = S.2.2 0 ∨ n ≤ a) (hS : simW h S A) (hX : simX S) (hsrt : srt (sR S) nw ls) (hf : ∀ p, p < (inS S ls).length → f p = nI (rwL S (inS S ls) p)) (hm : (inS S ls).length = m) (hkm : k = m - m % 2) (h6p : True) (ltP : ∀ z c, A z = some c → z < n) (hn : n ≤ n1) (hgs : (fun p => nbF S (f ((prL S f k k).getD p 0)) (f (mtP S f k ((prL S f k k).getD p 0)))) = gs) (hPP : (prL S f k k).length = P) (lt1 : ∀ z c, A1 z = some c → z < n1) (m3 : ∀ p, p < P → n ≤ hd p ∧ hd p < n1) (m4 : ∀ p q, p < P → q < P → hd p = hd q → p = q) (hn3 : n1 ≤ n3)
  (hW : A2 h = some (.inr (6, [.int (S.1 0), .ref (h + 1), .ref (h + 2), .ref (S.2.2 4), .ref (S.2.2 5), .int (S.1 5), .ref (h + 5), .ref a, .ref (S.2.2 2)])) ∧ A2 (h + 1) = some (.inl (0, 12, .inl (S.2.1 1))) ∧ A2 (h + 2) = some (.inl (0, 3, .inl (S.2.1 2))) ∧ A2 (h + 5) = some (.inl (2, 12, .inl (S.2.1 6))) ∧
  (∃ f, A2 a = some (.inl (3, S.2.2 1 + P, .inr (.inr (.inr (.inr f))))) ∧ (∀ q, q < S.2.2 1 → f q = some (S.2.2 (10 + q))) ∧ ∀ q, q < P → f (S.2.2 1 + q) = some (hd q)) ∧
  ((∀ q, q < S.2.2 1 → A2 (S.2.2 (10 + q)) = some (.inl (0, 5, .inl (S.2.1 (10 + q))))) ∧ ∀ q, q < P → A2 (hd q) = some (.inl (0, 5, .inl (gs q)))) ∧ A2 (S.2.2 2) = some (.inl (0, S.2.2 3, .inl (S.2.1 8))))
  (lt3 : ∀ z c, A2 z = some c → z < n3) (hF : ∀ z, z < n → ¬ z = h → A2 z = A z) (q1 : A8 n3 = some (.inl (0, S.2.2 3 + 1, .inl g))) (q2 : ∀ i, i < S.2.2 3 → g i = S.2.1 8 i) (q3 : g (S.2.2 3) = if k < m then f k else -1) (o4 : ∀ z, z < n3 → ¬ z = h → A6 z = A2 z) (g6 : A6 h = some (.inr (6, [.int (S.1 0), .ref (h + 1), .ref (h + 2), .ref (S.2.2 4), .ref (S.2.2 5), .int (S.1 5 + 1), .ref (h + 5), .ref a, .ref n3]))) (g7 : A6 n3 = A8 n3) {n6 : Nat} : prQ S h nw n A (.inl none) A6 n6 := by
  obtain ⟨ho, p1, p2, p6, ⟨fb, pa, pf, pf2⟩, ⟨pb, pb2⟩, pr⟩ := hW
  have uu : ∀ z kd len x, A2 z = some (.inl (kd, len, x)) → A6 z = A2 z := fun z kd len x hz => o4 z (lt3 _ _ hz) (fun e => by subst e; rw [ho] at hz; cases hz)
  generalize hT : apT S gs hd a P = T
  have t0 : T.1 = S.1 := by rw [← hT]; rfl
  have t1 : T.2.2 1 = S.2.2 1 + P := by rw [← hT]; rfl
  have ta : T.2.2 0 = a := by rw [← hT]; rfl
  have th_ : ∀ q, 2 ≤ q → q < 10 + S.2.2 1 → T.2.2 q = S.2.2 q := fun q h1 h2 => by rw [← hT]; exact apT_h h1 h2
  have td : ∀ q, T.2.2 (10 + (S.2.2 1 + q)) = hd q := fun q => by rw [← hT]; exact apT_d
  have tr : ∀ q, q < 10 + S.2.2 1 → T.2.1 q = S.2.1 q := fun q h1 => by rw [← hT]; exact apT_r h1
  have tn : ∀ q, T.2.1 (10 + (S.2.2 1 + q)) = gs q := fun q => by rw [← hT]; exact apT_n
  have v0 : ∀ q, ¬ q = 2 → ¬ q = 3 → (rsU T n3 g).2.2 q = T.2.2 q := fun q h1 h2 => by
    show va_up (va_up T.2.2 2 n3) 3 (T.2.2 3 + 1) q = _
    rw [va_up_ne _ _ h2, va_up_ne _ _ h1]
  have v2 : (rsU T n3 g).2.2 2 = n3 := by
    show va_up (va_up T.2.2 2 n3) 3 (T.2.2 3 + 1) 2 = _
    rw [va_up_ne _ _ (by decide)]; exact va_up_self _ _ _
  have v3 : (rsU T n3 g).2.2 3 = S.2.2 3 + 1 := by
    show va_up (va_up T.2.2 2 n3) 3 (T.2.2 3 + 1) 3 = _
    rw [va_up_self, th_ 3 (by decide) (by omega)]
  have w0 : ∀ q, ¬ q = 8 → (rsU T n3 g).2.1 q = T.2.1 q := fun q h1 => va_up_ne _ _ h1
  have w8 : (rsU T n3 g).2.1 8 = g := by
    show va_up T.2.1 8 g 8 = g
    exact va_up_self _ _ _
  have x5 : (rsU T n3 g).1 5 = S.1 5 + 1 := by
    show va_up T.1 5 (T.1 5 + 1) 5 = _
    rw [va_up_self, t0]
  have x0 : (rsU T n3 g).1 0 = S.1 0 := by
    show va_up T.1 5 (T.1 5 + 1) 0 = _
    rw [va_up_ne _ _ (by decide), t0]
  have ob : ∀ i, i < S.2.2 1 → S.2.2 (10 + i) < n := fun i hi => ltP _ _ (hS.2.2.2.2.2.1 i hi)
  have hnb_ : (rsU T n3 g).2.2 1 = S.2.2 1 + P := by rw [v0 1 (by decide) (by decide), t1]
  have hh : ∀ i, i < S.2.2 1 → (rsU T n3 g).2.2 (10 + i) = S.2.2 (10 + i) := fun i hi => by rw [v0 _ (by omega) (by omega), th_ _ (by omega) (by omega)]
  have hh2 : ∀ i, (rsU T n3 g).2.2 (10 + (S.2.2 1 + i)) = hd i := fun i => by rw [v0 _ (by omega) (by omega), td]
  have hh3 : ∀ i, i < S.2.2 1 + P → ¬ i < S.2.2 1 → (rsU T n3 g).2.2 (10 + i) = hd (i - S.2.2 1) ∧ i - S.2.2 1 < P := fun i h1 h2 => by
    refine ⟨?_, by omega⟩
    rw [← hh2, show S.2.2 1 + (i - S.2.2 1) = i from by omega]
  refine ⟨rfl, ls, f, rsU T n3 g, hsrt, hf, ⟨?_, ?_, ?_, ?_, ⟨fb, ?_, fun i hi => ?_⟩, fun i hi => ?_, ?_⟩, ⟨?_, fun i hi => ?_, fun i j hi hj e => ?_⟩, by rw [v0 0 (by decide) (by decide), ta]; exact ha, by rw [v2]; omega, fun i hi => ?_, fun i h1 h2 => ?_, ?_, fun z hz hzh => (o4 z (by omega) hzh).trans (hF z hz hzh)⟩
  · rw [g6, x0, x5, v0 4 (by decide) (by decide), v0 5 (by decide) (by decide), v0 0 (by decide) (by decide), v2, th_ 4 (by decide) (by omega), th_ 5 (by decide) (by omega), ta]
  · rw [w0 1 (by decide), tr 1 (by omega)]; exact (uu _ _ _ _ p1).trans p1
  · rw [w0 2 (by decide), tr 2 (by omega)]; exact (uu _ _ _ _ p2).trans p2
  · rw [w0 6 (by decide), tr 6 (by omega)]; exact (uu _ _ _ _ p6).trans p6
  · rw [v0 0 (by decide) (by decide), ta, hnb_]; exact (uu _ _ _ _ pa).trans pa
  · rw [hnb_] at hi
    by_cases c : i < S.2.2 1
    · rw [hh i c]; exact pf i c
    · obtain ⟨e1, e2⟩ := hh3 i hi c
      have z := pf2 _ e2
      rw [show S.2.2 1 + (i - S.2.2 1) = i from by omega] at z
      rw [e1]; exact z
  · rw [hnb_] at hi
    by_cases c : i < S.2.2 1
    · rw [hh i c, w0 _ (by omega), tr _ (by omega)]; exact (uu _ _ _ _ (pb i c)).trans (pb i c)
    · obtain ⟨e1, e2⟩ := hh3 i hi c
      have z := tn (i - S.2.2 1)
      rw [show S.2.2 1 + (i - S.2.2 1) = i from by omega] at z
      rw [e1, w0 _ (by omega), z]
      exact (uu _ _ _ _ (pb2 _ e2)).trans (pb2 _ e2)
  · rw [v2, v3, w8, g7]; exact q1
  · rw [v0 6 (by decide) (by decide), th_ 6 (by decide) (by omega)]; exact hX.1
  · rw [hnb_] at hi
    rw [v2]
    by_cases c : i < S.2.2 1
    · rw [hh i c]; have := ob i c; omega
    · obtain ⟨e1, e2⟩ := hh3 i hi c
      rw [e1]; have := (m3 _ e2).2; omega
  · rw [hnb_] at hi hj
    by_cases c : i < S.2.2 1
    · by_cases c2 : j < S.2.2 1
      · rw [hh i c, hh j c2] at e; exact hX.2.2 i j c c2 e
      · obtain ⟨e1, e2⟩ := hh3 j hj c2
        rw [hh i c, e1] at e; have := ob i c; have := (m3 _ e2).1; omega
    · obtain ⟨e1, e2⟩ := hh3 i hi c
      by_cases c2 : j < S.2.2 1
      · rw [e1, hh j c2] at e; have := ob j c2; have := (m3 _ e2).1; omega
      · obtain ⟨e3, e4⟩ := hh3 j hj c2
        rw [e1, e3] at e; have := m4 _ _ e2 e4 e; omega
  · rw [hh i hi]; exact ob i hi
  · rw [hnb_] at h2
    obtain ⟨e1, e2⟩ := hh3 i h2 (by omega)
    rw [e1]; exact (m3 _ e2).1
  · rw [hm, ← hkm]
    refine ⟨x0, x5, fun q hq => by rw [w0 q (by omega), tr q (by omega)], ?_, ?_, ?_, by rw [hnb_, hPP], fun i hi => ⟨?_, hh i hi⟩, fun p hp => ?_, v3, fun i hi => by rw [w8]; exact q2 i hi, by rw [w8]; exact q3⟩
    · rw [v0 4 (by decide) (by decide), th_ 4 (by decide) (by omega)]
    · rw [v0 5 (by decide) (by decide), th_ 5 (by decide) (by omega)]
    · rw [v0 6 (by decide) (by decide), th_ 6 (by decide) (by omega)]
    · show (rsU T n3 g).2.1 (10 + i) = _
      rw [w0 _ (by omega), tr _ (by omega)]
    · show (rsU T n3 g).2.1 (10 + (S.2.2 1 + p)) = _
      rw [w0 _ (by omega), tn, ← hgs]
set_option maxRecDepth 100000 in
set_option maxHeartbeats 8000000 in
theorem c_X7_pair (hst : l.stackTraces = false) {h : Nat} {S : sS} (hS : simW h S A) (hnb : S.2.2 1 < 1000) (hnr : S.2.2 3 < 1000) {nw : Nat} (hw : S.1 0 = nI nw) (h12 : nw ≤ 12) (hX : simX S) (hb9 : S.2.2 1 < 80) (hr9 : S.2.2 3 < 90) : xx_C G l yX7_pair mX7_pair 9 354 60 4000 [.ref h] A n (prQ S h nw n A) := by
  have hS0 := hS
  obtain ⟨ho, p1, p2, p6, ⟨fa, pa, pf⟩, pb, pr⟩ := hS
  refine J_C hst (by decide +kernel) rfl rfl rfl (Nat.le_of_ble_eq_true rfl) ?_
  show xx_J _ _ _ _ _ _ _ _ 0 [(0, _)] [] _ _ _ _
  refine J_ltA (fun ltP => ?_)
  refine J_aload_n dX7_pair_0 rfl rfl ?_
  refine J_callV (As := []) dX7_pair_1 ml_X7_91 cal_X7_row im_X7_row se_X7_row ho rfl rfl rfl (Nat.le_of_ble_eq_true rfl) ⟨by decide, by decide⟩ ⟨by decide, by decide⟩ (c_X7_row hst hS0 hnb hnr hw h12) (fun _ _ _ _ hE => by obtain ⟨_, _, _, z, _⟩ := hE; exact nomatch z) (fun v2 A2 n2 _ hQ => ?_)
  obtain ⟨u9, ls, f, e2, hu1, hu2, hsrt, hu, hf, k2f⟩ := hQ
  cases e2
  obtain ⟨u, hz9⟩ : ∃ z : Nat, z = u9 := ⟨u9, rfl⟩
  subst hz9
  have hu1 : n ≤ u := hu1
  have hu2 : u < n2 := hu2
  have hm12 : (inS S ls).length ≤ 12 := Nat.le_trans inS_len (by rw [hsrt.len]; exact h12)
  generalize hm : (inS S ls).length = m at hu hm12
  have hS2 := hS0.up (n := n) ltP k2f
  have hmk : m % 100 = m ∧ m - m % 2 = m - m % 2 ∧ m ≤ 12 := ⟨Nat.mod_eq_of_lt (by omega), rfl, hm12⟩
  generalize hkm : m - m % 2 = k at hmk
  have hk12 : k ≤ 12 := by omega
  have hke : k % 2 = 0 := by omega
  have hmk2 : m % 100 = m ∧ k = m - m % 2 ∧ m ≤ 12 := ⟨hmk.1, hkm.symm, hm12⟩
  have ho := hS2.1
  refine J_astore_n (L' := [(1, _), (0, _)]) dX7_pair_4 rfl (by decide) rfl ?_
  refine J_aload_n dX7_pair_5 rfl rfl ?_
  refine J_aload_n dX7_pair_6 rfl rfl ?_
  refine J_callV (As := [_]) dX7_pair_7 ml_X7_94 cal_X7_mates im_X7_mates se_X7_mates ho rfl rfl rfl (Nat.le_of_ble_eq_true rfl) ⟨by decide, by decide⟩ ⟨by decide, by decide⟩ (c_X7_mates hst hS2 hnb hnr hmk2 hu) (fun _ _ _ _ hE => absurd hE.1 (fun z => nomatch z)) (fun v3 A3 n3 _ hQ => ?_)
  obtain ⟨e3, hn3, ⟨bs, hm2, hb12, hbs⟩, k3⟩ := hQ
  subst n3
  cases e3
  have hu3 := (k3 u hu2).trans hu
  refine J_astore_n (L' := [(2, _), (1, _), (0, _)]) dX7_pair_10 rfl (by decide) rfl ?_
  refine J_aload_n dX7_pair_11 rfl rfl ?_
  refine J_alen (v := nI m) dX7_pair_12 hu3 (by decide) rfl ?_
  refine J_aload_n dX7_pair_13 rfl rfl ?_
  refine J_alen (v := nI m) dX7_pair_14 hu3 (by decide) rfl ?_
  refine J_iconst (v := 2) dX7_pair_15 (by decide) ?_
  refine J_irem dX7_pair_16 (by decide) ?_
  rw [rem2s m (by omega)]
  refine J_isub dX7_pair_17 ?_
  rw [show nI m - nI (m % 2) = nI k from by rw [pk_sub (by omega), hkm]]
  refine J_istore_n (L' := [(3, _), (2, _), (1, _), (0, _)]) dX7_pair_18 rfl (by decide) rfl ?_
  refine J_iconst (v := 0) dX7_pair_19 (by decide) ?_
  refine J_newA (N := 0) dX7_pair_20 cl_X7_29 (by decide) (by decide) (by decide) (by decide) (by decide) ?_
  refine J_up (fun A4 g4 o4 => ?_)
  refine J_astore (L' := [(4, _), (3, _), (2, _), (1, _), (0, _)]) dX7_pair_23 (by decide) rfl ?_
  refine J_iconst (v := 0) dX7_pair_25 (by decide) ?_
  refine J_istore (L' := [(5, _), (4, _), (3, _), (2, _), (1, _), (0, _)]) dX7_pair_26 (by decide) rfl ?_
  have h6p : True := trivial
  have hkm := hkm.symm
  have tail : ∀ (x : Int32) (A1 : xx_H) (n1 k1 j1 v : Nat) (hd : Nat → Nat), n ≤ n1 → (k1 ≤ 19 + 2 * k ∧ j1 ≤ 1325 + 105 * k) → (∀ z, z < n → A1 z = A z) → A1 u = some (.inl (0, m, .inl f)) → A1 n2 = some (.inl (0, 13, .inl bs)) → (n ≤ u ∧ n ≤ n2 ∧ n ≤ v ∧ u < n1 ∧ n2 < n1 ∧ v < n1) → mdI S f k n n1 v k hd A1 → xx_J G l mX7_pair 9 354 60 4000 (prQ S h nw n A) 228 [(5, .int x), (0, .ref h), (1, .ref u), (2, .ref n2), (3, .int (nI k)), (4, .ref v)] [] A1 n1 k1 j1 := by
    intro x A1 n1 k1 j1 v hd hn hk h3 hu hm2 huv hmd
    obtain ⟨⟨g0, m1, m2⟩, m3, m4⟩ := hmd
    have hP : (prL S f k k).length ≤ 12 := Nat.le_trans prL_len hk12
    refine J_ltA (fun lt1 => ?_)
    have hhn := ltP _ _ hS0.1
    generalize hgs : (fun p => nbF S (f ((prL S f k k).getD p 0)) (f (mtP S f k ((prL S f k k).getD p 0)))) = gs
    have m5 : ∀ p, p < (prL S f k k).length → A1 (hd p) = some (.inl (0, 5, .inl (gs p))) := fun p hp => by rw [← hgs]; exact (m3 p hp).2.2
    generalize hPP : (prL S f k k).length = P at hP m1 m2 m3 m4 m5
    have loop2 : ∀ i, i ≤ P → ∀ (x2 : Int32) (A2 : xx_H) (n3 k2 j2 a : Nat), x2 = nI i → n1 ≤ n3 → (k2 ≤ k1 + i ∧ j2 ≤ j1 + 100 * i) → simW h (apT S gs hd a i) A2 → (∀ z, z < n1 → ¬ z = h → A2 z = A1 z) → (a = S.2.2 0 ∨ n ≤ a) → xx_J G l mX7_pair 9 354 60 4000 (prQ S h nw n A) 240 [(7, .int x2), (6, .int (nI P)), (5, .ref v), (0, .ref h), (1, .ref u), (2, .ref n2), (3, .int (nI k)), (4, .ref v)] [] A2 n3 k2 j2 := by
      refine xx_dn ?_ ?_
      · intro x2 A2 n3 k2 j2 a hx hn3 hk2 hW hF ha
        have ex : x2.toInt = P := by rw [hx]; exact i_n (by omega)
        have en : (nI P).toInt = P := i_n (by omega)
        have ho := (apT_w.mp hW).1
        have pr2 := (apT_w.mp hW).2.2.2.2.2.2
        have hu2 := (hF u (by omega) (by omega)).trans hu
        have emm : (nI m).toInt = m := i_n (by omega)
        have emk : (nI k).toInt = k := i_n (by omega)
        by_cases hkl : k < m
        · refine J_iload dX7_pair_240 rfl ?_
          refine J_iload dX7_pair_242 rfl ?_
          refine J_icmp_ge (tgt := 273) dX7_pair_244 rfl (fun h244 => ?_) (fun h244 => ?_)
          · refine J_aload_n dX7_pair_273 rfl rfl ?_
            refine J_aload_n dX7_pair_274 rfl rfl ?_
            refine J_getf dX7_pair_275 fl_X7_34 ho rfl ?_
            refine J_aload_n dX7_pair_278 rfl rfl ?_
            refine J_alen (v := nI m) dX7_pair_279 hu2 (by decide) rfl ?_
            refine J_iload_n dX7_pair_280 rfl rfl ?_
            refine J_icmp_le (tgt := 290) dX7_pair_281 rfl (fun z => absurd z (by simp only [i_lt, i_le, emm, emk]; omega)) (fun _ => ?_)
            refine J_aload_n dX7_pair_284 rfl rfl ?_
            refine J_iload_n dX7_pair_285 rfl rfl ?_
            refine J_ialdN k dX7_pair_286 hu2 rfl (by omega) (by omega) ?_
            refine J_goto (tgt := 291) dX7_pair_287 rfl ?_
            refine J_ltA (fun lt3 => ?_)
            refine J_callSg (As := [_, _]) dX7_pair_291 ml_X7_80 cal_X7_with_ rfl sm_X7_with_ rfl (Nat.le_of_ble_eq_true rfl) ⟨by decide, by decide⟩ ⟨by omega, by omega⟩ (c_X7_with_ hst pr2 (by omega)) (fun v8 A8 n8 _ hQ => ?_) (fun _ _ _ _ hE => absurd hE.1 (fun z => nomatch z))
            obtain ⟨e8, hn8, ⟨g, q1, q2, q3⟩, q4⟩ := hQ
            subst n8
            cases e8
            have ho8 := (q4 h (by omega)).trans ho
            refine J_putf dX7_pair_294 fp_X7_34 (fun _ => ⟨rfl, rfl⟩) ho8 (Nat.le_of_ble_eq_true rfl) ?_
            refine J_up (fun A5 g5 o5 => ?_)
            refine J_aload_n dX7_pair_297 rfl rfl ?_
            refine J_dup dX7_pair_298 rfl ?_
            refine J_getf dX7_pair_299 fl_X7_42 g5 rfl ?_
            refine J_iconst (v := 1) dX7_pair_302 (by decide) ?_
            refine J_iadd dX7_pair_303 ?_
            refine J_putf dX7_pair_304 fp_X7_42 (fun _ => ⟨rfl, rfl⟩) g5 (Nat.le_of_ble_eq_true rfl) ?_
            refine J_up (fun A6 g6 o6 => ?_)
            refine J_return dX7_pair_307 rfl (by omega) (by omega) ?_
            refine pr_fin ha hS0 hX hsrt hf hm hkm h6p ltP hn hgs hPP lt1 (fun p hp => ⟨(m3 p hp).1, (m3 p hp).2.1⟩) m4 hn3 (apT_w.mp hW) lt3 (fun z hz hzh => (hF z (by omega) hzh).trans (h3 z hz)) q1 q2 (q3.trans (if_pos hkl).symm) (o4 := fun z hz hzh => (o6 z hzh).trans ((o5 z hzh).trans (q4 z hz))) g6 ((o6 n3 (by omega)).trans (o5 n3 (by omega)))
          · first | (exfalso; simp only [i_lt, i_le, i_eq, i_0, i_1, i_2, i_3, i_4, i_5, i_6, i_8, i_9, i_10, i_12, i_16, i_20, i_m1] at h244; omega) | (exfalso; simp only [s_up, a_up, va_up, i_lt, i_le, i_eq, i_0, i_1, i_2, i_3, i_4, i_5, i_6, i_8, i_9, i_10, i_12, i_16, i_20, i_m1, ↓reduceIte, Nat.reduceEqDiff] at h244; omega)
        · refine J_iload dX7_pair_240 rfl ?_
          refine J_iload dX7_pair_242 rfl ?_
          refine J_icmp_ge (tgt := 273) dX7_pair_244 rfl (fun h244 => ?_) (fun h244 => ?_)
          · refine J_aload_n dX7_pair_273 rfl rfl ?_
            refine J_aload_n dX7_pair_274 rfl rfl ?_
            refine J_getf dX7_pair_275 fl_X7_34 ho rfl ?_
            refine J_aload_n dX7_pair_278 rfl rfl ?_
            refine J_alen (v := nI m) dX7_pair_279 hu2 (by decide) rfl ?_
            refine J_iload_n dX7_pair_280 rfl rfl ?_
            refine J_icmp_le (tgt := 290) dX7_pair_281 rfl (fun _ => ?_) (fun z => absurd z (by simp only [i_lt, i_le, emm, emk]; omega))
            refine J_iconst (v := -1) dX7_pair_290 (by decide) ?_
            refine J_ltA (fun lt3 => ?_)
            refine J_callSg (As := [_, _]) dX7_pair_291 ml_X7_80 cal_X7_with_ rfl sm_X7_with_ rfl (Nat.le_of_ble_eq_true rfl) ⟨by decide, by decide⟩ ⟨by omega, by omega⟩ (c_X7_with_ hst pr2 (by omega)) (fun v8 A8 n8 _ hQ => ?_) (fun _ _ _ _ hE => absurd hE.1 (fun z => nomatch z))
            obtain ⟨e8, hn8, ⟨g, q1, q2, q3⟩, q4⟩ := hQ
            subst n8
            cases e8
            have ho8 := (q4 h (by omega)).trans ho
            refine J_putf dX7_pair_294 fp_X7_34 (fun _ => ⟨rfl, rfl⟩) ho8 (Nat.le_of_ble_eq_true rfl) ?_
            refine J_up (fun A5 g5 o5 => ?_)
            refine J_aload_n dX7_pair_297 rfl rfl ?_
            refine J_dup dX7_pair_298 rfl ?_
            refine J_getf dX7_pair_299 fl_X7_42 g5 rfl ?_
            refine J_iconst (v := 1) dX7_pair_302 (by decide) ?_
            refine J_iadd dX7_pair_303 ?_
            refine J_putf dX7_pair_304 fp_X7_42 (fun _ => ⟨rfl, rfl⟩) g5 (Nat.le_of_ble_eq_true rfl) ?_
            refine J_up (fun A6 g6 o6 => ?_)
            refine J_return dX7_pair_307 rfl (by omega) (by omega) ?_
            refine pr_fin ha hS0 hX hsrt hf hm hkm h6p ltP hn hgs hPP lt1 (fun p hp => ⟨(m3 p hp).1, (m3 p hp).2.1⟩) m4 hn3 (apT_w.mp hW) lt3 (fun z hz hzh => (hF z (by omega) hzh).trans (h3 z hz)) q1 q2 (q3.trans (if_neg hkl).symm) (o4 := fun z hz hzh => (o6 z hzh).trans ((o5 z hzh).trans (q4 z hz))) g6 ((o6 n3 (by omega)).trans (o5 n3 (by omega)))
          · first | (exfalso; simp only [i_lt, i_le, i_eq, i_0, i_1, i_2, i_3, i_4, i_5, i_6, i_8, i_9, i_10, i_12, i_16, i_20, i_m1] at h244; omega) | (exfalso; simp only [s_up, a_up, va_up, i_lt, i_le, i_eq, i_0, i_1, i_2, i_3, i_4, i_5, i_6, i_8, i_9, i_10, i_12, i_16, i_20, i_m1, ↓reduceIte, Nat.reduceEqDiff] at h244; omega)
      · intro i hii ih x2 A2 n3 k2 j2 a hx hn3 hk2 hW hF ha
        have ex : x2.toInt = i := by rw [hx]; exact i_n (by omega)
        have en : (nI P).toInt = P := i_n (by omega)
        obtain ⟨ho, w1, w2, w6, ⟨fb, pa2, pf2, pf3⟩, ⟨pb2, pb3⟩, pr2⟩ := apT_w.mp hW
        have hv2 := (hF v (by omega) (by omega)).trans m1
        have hd2 := (hF (hd i) (m3 i hii).2.1 (by have := (m3 i hii).1; omega)).trans (m5 i hii)
        refine J_ltA (fun lt2 => ?_)
        refine J_iload dX7_pair_240 rfl ?_
        refine J_iload dX7_pair_242 rfl ?_
        refine J_icmp_ge (tgt := 273) dX7_pair_244 rfl (fun h244 => ?_) (fun h244 => ?_)
        · first | (exfalso; simp only [i_lt, i_le, i_eq, i_0, i_1, i_2, i_3, i_4, i_5, i_6, i_8, i_9, i_10, i_12, i_16, i_20, i_m1] at h244; omega) | (exfalso; simp only [s_up, a_up, va_up, i_lt, i_le, i_eq, i_0, i_1, i_2, i_3, i_4, i_5, i_6, i_8, i_9, i_10, i_12, i_16, i_20, i_m1, ↓reduceIte, Nat.reduceEqDiff] at h244; omega)
        · refine J_aload dX7_pair_247 rfl ?_
          refine J_iload dX7_pair_249 rfl ?_
          refine J_aaldR i dX7_pair_251 (Or.inl rfl) hv2 hx hii (by omega) (m2 i hii) ?_
          refine J_astore (L' := [(8, _), (7, _), (6, _), (5, _), (0, _), (1, _), (2, _), (3, _), (4, _)]) dX7_pair_252 (by decide) rfl ?_
          refine J_aload_n dX7_pair_254 rfl rfl ?_
          refine J_aload_n dX7_pair_255 rfl rfl ?_
          refine J_getf dX7_pair_256 fl_X7_30 ho rfl ?_
          refine J_aload dX7_pair_259 rfl ?_
          refine J_callSg (As := [_, _]) dX7_pair_261 ml_X7_45 cal_X7_with rfl sm_X7_with rfl (Nat.le_of_ble_eq_true rfl) ⟨by decide, by decide⟩ ⟨by omega, by omega⟩ (c_X7_with hst pa2 hd2 (by omega) (fun p hp => by
            by_cases c : p < S.2.2 1
            · exact ⟨_, _, pf2 p c, pb2 p c⟩
            · have z := pf3 (p - S.2.2 1) (by omega)
              rw [show S.2.2 1 + (p - S.2.2 1) = p from by omega] at z
              exact ⟨_, _, z, pb3 _ (by omega)⟩)) (fun v8 A8 n8 _ hQ => ?_) (fun _ _ _ _ hE => absurd hE.1 (fun z => nomatch z))
          obtain ⟨e8, hn8, ⟨g, q1, q2, q3⟩, q4⟩ := hQ
          subst n8
          cases e8
          have hh3 : h < n3 := lt2 _ _ ho
          have ho8 := (q4 h hh3).trans ho
          refine J_putf dX7_pair_264 fp_X7_30 (fun _ => ⟨rfl, rfl⟩) ho8 (Nat.le_of_ble_eq_true rfl) ?_
          refine J_up (fun A5 g5 o5 => ?_)
          refine J_iinc (v := _ + 1) (L' := [(7, _), (8, _), (6, _), (5, _), (0, _), (1, _), (2, _), (3, _), (4, _)]) dX7_pair_267 rfl rfl (by decide) rfl ?_
          refine J_goto (tgt := 240) dX7_pair_270 rfl ?_
          refine xx_J.pick [0, 2, 3, 4, 5, 6, 7, 8] rfl ?_
          exact ih _ A5 (n3 + 1) _ _ n3 (by rw [hx]; exact nI_1 i) (by omega) (by omega) (apT_st hW lt2 (fun z c hz e => by subst e; exact Option.some.inj (hz.symm.trans ho)) hd2 pa2 ((o5 n3 (by omega)).trans q1) q2 q3 g5 (fun z hz hzh => (o5 z hzh).trans (q4 z hz))) (fun z hz hzh => (o5 z hzh).trans ((q4 z (by omega)).trans (hF z hz hzh))) (Or.inr (by omega))
    refine J_aload dX7_pair_228 rfl ?_
    refine J_astore (L' := [(5, _), (0, _), (1, _), (2, _), (3, _), (4, _)]) dX7_pair_230 (by decide) rfl ?_
    refine J_aload dX7_pair_232 rfl ?_
    refine J_alen (v := nI P) dX7_pair_234 m1 (by decide) rfl ?_
    refine J_istore (L' := [(6, _), (5, _), (0, _), (1, _), (2, _), (3, _), (4, _)]) dX7_pair_235 (by decide) rfl ?_
    refine J_iconst (v := 0) dX7_pair_237 (by decide) ?_
    refine J_istore (L' := [(7, _), (6, _), (5, _), (0, _), (1, _), (2, _), (3, _), (4, _)]) dX7_pair_238 (by decide) rfl ?_
    refine xx_J.pick [0, 1, 2, 3, 4, 5, 6, 7] rfl ?_
    exact loop2 0 (Nat.zero_le _) _ A1 n1 k1 j1 (S.2.2 0) rfl (Nat.le_refl _) ⟨Nat.le_refl _, Nat.le_refl _⟩ (apT_0 (hS0.up (n := n) ltP h3)) (fun _ _ _ => rfl) (Or.inl rfl)
  have loop : ∀ i, i ≤ k → ∀ (x : Int32) (A1 : xx_H) (n1 k1 j1 v : Nat) (hd : Nat → Nat), x = nI i → n ≤ n1 → (k1 ≤ 19 + 2 * i ∧ j1 ≤ 1325 + 105 * i) → (∀ z, z < n → A1 z = A z) → A1 u = some (.inl (0, m, .inl f)) → A1 n2 = some (.inl (0, 13, .inl bs)) → (n ≤ u ∧ n ≤ n2 ∧ n ≤ v ∧ u < n1 ∧ n2 < n1 ∧ v < n1) → mdI S f k n n1 v i hd A1 → xx_J G l mX7_pair 9 354 60 4000 (prQ S h nw n A) 28 [(5, .int x), (0, .ref h), (1, .ref u), (2, .ref n2), (3, .int (nI k)), (4, .ref v)] [] A1 n1 k1 j1 := by
    refine xx_dn ?_ ?_
    · intro x A1 n1 k1 j1 v hd hx hn hk h3 hu hm2 huv hmd
      have ex : x.toInt = k := by rw [hx]; exact i_n (by omega)
      have en : (nI k).toInt = k := i_n (by omega)
      refine J_iload dX7_pair_28 rfl ?_
      refine J_iload_n dX7_pair_30 rfl rfl ?_
      refine J_icmp_ge (tgt := 228) dX7_pair_31 rfl (fun h31 => ?_) (fun h31 => ?_)
      · refine xx_J.pick [0, 1, 2, 3, 4, 5] rfl ?_
        exact tail x A1 n1 k1 j1 v hd hn hk h3 hu hm2 huv hmd
      · first | (exfalso; simp only [i_lt, i_le, i_eq, i_0, i_1, i_2, i_3, i_4, i_5, i_6, i_8, i_9, i_10, i_12, i_16, i_20, i_m1] at h31; omega) | (exfalso; simp only [s_up, a_up, va_up, i_lt, i_le, i_eq, i_0, i_1, i_2, i_3, i_4, i_5, i_6, i_8, i_9, i_10, i_12, i_16, i_20, i_m1, ↓reduceIte, Nat.reduceEqDiff] at h31; omega)
    · intro i hii ih x A1 n1 k1 j1 v hd hx hn hk h3 hu hm2 huv hmd
      have ex : x.toInt = i := by rw [hx]; exact i_n (by omega)
      have en : (nI k).toInt = k := i_n (by omega)
      have hS1 := hS0.up (n := n) ltP h3
      have ho := hS1.1
      obtain ⟨c1, c2, c3⟩ := mtP_ok (S := S) (f := f) hk12 hke hii
      have eb : bs i = nI (mtP S f k i) := hbs i hii
      have em : (nI (mtP S f k i)).toInt = mtP S f k i := i_n (by omega)
      refine J_ltA (fun lt1 => ?_)
      by_cases h40 : i ≤ mtP S f k i
      · have rest1 : rdB S (f i) (f (mtP S f k i)) → xx_J G l mX7_pair 9 354 60 4000 (prQ S h nw n A) 121 [(7, .int (f (mtP S f k i))), (6, .int (f i)), (5, .int x), (0, .ref h), (1, .ref u), (2, .ref n2), (3, .int (nI k)), (4, .ref v)] [.int 1] A1 n1 k1 j1 := by
          intro hrd
          refine J_istore (L' := [(8, _), (7, _), (6, _), (5, _), (0, _), (1, _), (2, _), (3, _), (4, _)]) dX7_pair_121 (by decide) rfl ?_
          refine J_aload_n dX7_pair_123 rfl rfl ?_
          refine J_iload dX7_pair_124 rfl ?_
          refine J_callVr (As := [_]) dX7_pair_126 ml_X7_57 cal_X7_points im_X7_points se_X7_points ho rfl rfl rfl (Nat.le_of_ble_eq_true rfl) ⟨by decide, by decide⟩ ⟨by omega, by omega⟩ (c_X7_points hst hS1 hnb hnr _) ?_
          refine J_aload_n dX7_pair_129 rfl rfl ?_
          refine J_iload dX7_pair_130 rfl ?_
          refine J_callVr (As := [_]) dX7_pair_132 ml_X7_57 cal_X7_points im_X7_points se_X7_points ho rfl rfl rfl (Nat.le_of_ble_eq_true rfl) ⟨by decide, by decide⟩ ⟨by omega, by omega⟩ (c_X7_points hst hS1 hnb hnr _) ?_
          refine J_icmp_le (tgt := 143) dX7_pair_135 rfl (fun h135 => ?_) (fun h135 => ?_)
          · refine J_aload_n dX7_pair_143 rfl rfl ?_
            refine J_iload dX7_pair_144 rfl ?_
            refine J_callVr (As := [_]) dX7_pair_146 ml_X7_57 cal_X7_points im_X7_points se_X7_points ho rfl rfl rfl (Nat.le_of_ble_eq_true rfl) ⟨by decide, by decide⟩ ⟨by omega, by omega⟩ (c_X7_points hst hS1 hnb hnr _) ?_
            refine J_aload_n dX7_pair_149 rfl rfl ?_
            refine J_iload dX7_pair_150 rfl ?_
            refine J_callVr (As := [_]) dX7_pair_152 ml_X7_57 cal_X7_points im_X7_points se_X7_points ho rfl rfl rfl (Nat.le_of_ble_eq_true rfl) ⟨by decide, by decide⟩ ⟨by omega, by omega⟩ (c_X7_points hst hS1 hnb hnr _) ?_
            refine J_icmp_ge (tgt := 163) dX7_pair_155 rfl (fun h155 => ?_) (fun h155 => ?_)
            · refine J_iconst (v := -1) dX7_pair_163 (by decide) ?_
              refine J_istore (L' := [(9, _), (8, _), (7, _), (6, _), (5, _), (0, _), (1, _), (2, _), (3, _), (4, _)]) dX7_pair_164 (by decide) rfl ?_
              refine J_aload dX7_pair_166 rfl ?_
              refine J_iconst (v := 5) dX7_pair_168 (by decide) ?_
              refine J_newi (N := 5) dX7_pair_169 ac_int (by decide) (by decide) (by decide) (by omega) (by omega) ?_
              refine J_up (fun A2 g2 o2 => ?_)
              have ho2 := (o2 h (by have := ltP _ _ hS0.1; omega)).trans ho
              refine J_dup dX7_pair_171 rfl ?_
              refine J_iconst (v := 0) dX7_pair_172 (by decide) ?_
              refine J_aload_n dX7_pair_173 rfl rfl ?_
              refine J_getf dX7_pair_174 fl_X7_42 ho2 rfl ?_
              refine J_iastQ 0 dX7_pair_177 g2 rfl (by decide) (by decide) (fun A3 g3 o3 => ?_)
              refine J_dup dX7_pair_178 rfl ?_
              refine J_iconst (v := 1) dX7_pair_179 (by decide) ?_
              refine J_iload dX7_pair_180 rfl ?_
              refine J_if_eq (tgt := 190) dX7_pair_182 rfl (fun h182 => ?_) (fun h182 => ?_)
              · first | exact absurd h182 (by decide) | exact absurd (by decide) h182
              · refine J_iload dX7_pair_185 rfl ?_
                refine J_goto (tgt := 192) dX7_pair_187 rfl ?_
                refine J_iastQ 1 dX7_pair_192 g3 rfl (by decide) (by decide) (fun A4 g4 o4 => ?_)
                refine J_dup dX7_pair_193 rfl ?_
                refine J_iconst (v := 2) dX7_pair_194 (by decide) ?_
                refine J_iload dX7_pair_195 rfl ?_
                refine J_if_eq (tgt := 205) dX7_pair_197 rfl (fun h197 => ?_) (fun h197 => ?_)
                · first | exact absurd h197 (by decide) | exact absurd (by decide) h197
                · refine J_iload dX7_pair_200 rfl ?_
                  refine J_goto (tgt := 207) dX7_pair_202 rfl ?_
                  refine J_iastQ 2 dX7_pair_207 g4 rfl (by decide) (by decide) (fun A5 g5 o5 => ?_)
                  refine J_dup dX7_pair_208 rfl ?_
                  refine J_iconst (v := 3) dX7_pair_209 (by decide) ?_
                  refine J_iconst (v := -1) dX7_pair_210 (by decide) ?_
                  refine J_iastQ 3 dX7_pair_211 g5 rfl (by decide) (by decide) (fun A6 g6 o6 => ?_)
                  refine J_dup dX7_pair_212 rfl ?_
                  refine J_iconst (v := 4) dX7_pair_213 (by decide) ?_
                  refine J_iload dX7_pair_214 rfl ?_
                  refine J_iastQ 4 dX7_pair_216 g6 rfl (by decide) (by decide) (fun A7 g7 o7 => ?_)
                  have up7 : ∀ z, z < n1 → A7 z = A1 z := fun z hz => (o7 z (by omega)).trans ((o6 z (by omega)).trans ((o5 z (by omega)).trans ((o4 z (by omega)).trans ((o3 z (by omega)).trans (o2 z (by omega))))))
                  rw [show upd (upd (upd (upd (upd (fun _ => 0) 0 _) 1 _) 2 _) 3 _) 4 _ = nbF S (f i) (f (mtP S f k i)) from by first | (unfold nbF flB; rw [if_pos hrd, if_pos hrd]; first | (rw [if_pos (Int32.not_le.mp (by assumption))]; done) | (rw [if_neg (Int32.not_lt.mpr (by assumption)), if_pos (Int32.not_le.mp (by assumption))]; done) | (rw [if_neg (Int32.not_lt.mpr (by assumption)), if_neg (Int32.not_lt.mpr (by assumption))]; done))] at g7
                  obtain ⟨⟨g0, m1, m2⟩, m3, m4⟩ := hmd
                  refine J_ltA (fun lt9 => ?_)
                  refine J_callSg (As := [_, _]) dX7_pair_217 ml_X7_45 cal_X7_with rfl sm_X7_with rfl (Nat.le_of_ble_eq_true rfl) ⟨by decide, by decide⟩ ⟨by omega, by omega⟩ (c_X7_with hst ((up7 v (by omega)).trans m1) g7 (by have := prL_len (S := S) (f := f) (k := k) (i := i); omega) (fun p hp => ⟨_, _, m2 p hp, (up7 _ (m3 p hp).2.1).trans (m3 p hp).2.2⟩)) (fun v8 A8 n8 _ hQ => ?_) (fun _ _ _ _ hE => absurd hE.1 (fun z => nomatch z))
                  obtain ⟨e8, hn8, ⟨g, q1, q2, q3⟩, q4⟩ := hQ
                  subst n8
                  cases e8
                  refine J_astore (L' := [(4, _), (9, _), (8, _), (7, _), (6, _), (5, _), (0, _), (1, _), (2, _), (3, _)]) dX7_pair_220 (by decide) rfl ?_
                  refine J_iinc (v := _ + 1) (L' := [(5, _), (4, _), (9, _), (8, _), (7, _), (6, _), (0, _), (1, _), (2, _), (3, _)]) dX7_pair_222 rfl rfl (by decide) rfl ?_
                  refine J_goto (tgt := 28) dX7_pair_225 rfl ?_
                  refine xx_J.pick [0, 6, 7, 8, 9, 1] rfl ?_
                  exact ih _ A8 (n1 + 1 + 1) _ _ (n1 + 1) _ (by rw [hx]; exact nI_1 i) (by omega) (by omega) (fun z hz => (q4 z (by omega)).trans ((up7 z (by omega)).trans (h3 z hz))) ((q4 u (by omega)).trans ((up7 u (by omega)).trans hu)) ((q4 n2 (by omega)).trans ((up7 n2 (by omega)).trans hm2)) (by omega) (mdI_st (hd := hd) ⟨⟨g0, m1, m2⟩, m3, m4⟩ (fun z c hz => lt1 z c hz) h40 hn q1 (fun g9 hg9 p hp => by
                    have z := hg9.symm.trans m1
                    cases z
                    exact q2 p hp) q3 ((q4 n1 (by omega)).trans g7) (fun z hz => (q4 z (by omega)).trans (up7 z hz)))
            · refine J_iload dX7_pair_158 rfl ?_
              refine J_goto (tgt := 164) dX7_pair_160 rfl ?_
              refine J_istore (L' := [(9, _), (8, _), (7, _), (6, _), (5, _), (0, _), (1, _), (2, _), (3, _), (4, _)]) dX7_pair_164 (by decide) rfl ?_
              refine J_aload dX7_pair_166 rfl ?_
              refine J_iconst (v := 5) dX7_pair_168 (by decide) ?_
              refine J_newi (N := 5) dX7_pair_169 ac_int (by decide) (by decide) (by decide) (by omega) (by omega) ?_
              refine J_up (fun A2 g2 o2 => ?_)
              have ho2 := (o2 h (by have := ltP _ _ hS0.1; omega)).trans ho
              refine J_dup dX7_pair_171 rfl ?_
              refine J_iconst (v := 0) dX7_pair_172 (by decide) ?_
              refine J_aload_n dX7_pair_173 rfl rfl ?_
              refine J_getf dX7_pair_174 fl_X7_42 ho2 rfl ?_
              refine J_iastQ 0 dX7_pair_177 g2 rfl (by decide) (by decide) (fun A3 g3 o3 => ?_)
              refine J_dup dX7_pair_178 rfl ?_
              refine J_iconst (v := 1) dX7_pair_179 (by decide) ?_
              refine J_iload dX7_pair_180 rfl ?_
              refine J_if_eq (tgt := 190) dX7_pair_182 rfl (fun h182 => ?_) (fun h182 => ?_)
              · first | exact absurd h182 (by decide) | exact absurd (by decide) h182
              · refine J_iload dX7_pair_185 rfl ?_
                refine J_goto (tgt := 192) dX7_pair_187 rfl ?_
                refine J_iastQ 1 dX7_pair_192 g3 rfl (by decide) (by decide) (fun A4 g4 o4 => ?_)
                refine J_dup dX7_pair_193 rfl ?_
                refine J_iconst (v := 2) dX7_pair_194 (by decide) ?_
                refine J_iload dX7_pair_195 rfl ?_
                refine J_if_eq (tgt := 205) dX7_pair_197 rfl (fun h197 => ?_) (fun h197 => ?_)
                · first | exact absurd h197 (by decide) | exact absurd (by decide) h197
                · refine J_iload dX7_pair_200 rfl ?_
                  refine J_goto (tgt := 207) dX7_pair_202 rfl ?_
                  refine J_iastQ 2 dX7_pair_207 g4 rfl (by decide) (by decide) (fun A5 g5 o5 => ?_)
                  refine J_dup dX7_pair_208 rfl ?_
                  refine J_iconst (v := 3) dX7_pair_209 (by decide) ?_
                  refine J_iconst (v := -1) dX7_pair_210 (by decide) ?_
                  refine J_iastQ 3 dX7_pair_211 g5 rfl (by decide) (by decide) (fun A6 g6 o6 => ?_)
                  refine J_dup dX7_pair_212 rfl ?_
                  refine J_iconst (v := 4) dX7_pair_213 (by decide) ?_
                  refine J_iload dX7_pair_214 rfl ?_
                  refine J_iastQ 4 dX7_pair_216 g6 rfl (by decide) (by decide) (fun A7 g7 o7 => ?_)
                  have up7 : ∀ z, z < n1 → A7 z = A1 z := fun z hz => (o7 z (by omega)).trans ((o6 z (by omega)).trans ((o5 z (by omega)).trans ((o4 z (by omega)).trans ((o3 z (by omega)).trans (o2 z (by omega))))))
                  rw [show upd (upd (upd (upd (upd (fun _ => 0) 0 _) 1 _) 2 _) 3 _) 4 _ = nbF S (f i) (f (mtP S f k i)) from by first | (unfold nbF flB; rw [if_pos hrd, if_pos hrd]; first | (rw [if_pos (Int32.not_le.mp (by assumption))]; done) | (rw [if_neg (Int32.not_lt.mpr (by assumption)), if_pos (Int32.not_le.mp (by assumption))]; done) | (rw [if_neg (Int32.not_lt.mpr (by assumption)), if_neg (Int32.not_lt.mpr (by assumption))]; done))] at g7
                  obtain ⟨⟨g0, m1, m2⟩, m3, m4⟩ := hmd
                  refine J_ltA (fun lt9 => ?_)
                  refine J_callSg (As := [_, _]) dX7_pair_217 ml_X7_45 cal_X7_with rfl sm_X7_with rfl (Nat.le_of_ble_eq_true rfl) ⟨by decide, by decide⟩ ⟨by omega, by omega⟩ (c_X7_with hst ((up7 v (by omega)).trans m1) g7 (by have := prL_len (S := S) (f := f) (k := k) (i := i); omega) (fun p hp => ⟨_, _, m2 p hp, (up7 _ (m3 p hp).2.1).trans (m3 p hp).2.2⟩)) (fun v8 A8 n8 _ hQ => ?_) (fun _ _ _ _ hE => absurd hE.1 (fun z => nomatch z))
                  obtain ⟨e8, hn8, ⟨g, q1, q2, q3⟩, q4⟩ := hQ
                  subst n8
                  cases e8
                  refine J_astore (L' := [(4, _), (9, _), (8, _), (7, _), (6, _), (5, _), (0, _), (1, _), (2, _), (3, _)]) dX7_pair_220 (by decide) rfl ?_
                  refine J_iinc (v := _ + 1) (L' := [(5, _), (4, _), (9, _), (8, _), (7, _), (6, _), (0, _), (1, _), (2, _), (3, _)]) dX7_pair_222 rfl rfl (by decide) rfl ?_
                  refine J_goto (tgt := 28) dX7_pair_225 rfl ?_
                  refine xx_J.pick [0, 6, 7, 8, 9, 1] rfl ?_
                  exact ih _ A8 (n1 + 1 + 1) _ _ (n1 + 1) _ (by rw [hx]; exact nI_1 i) (by omega) (by omega) (fun z hz => (q4 z (by omega)).trans ((up7 z (by omega)).trans (h3 z hz))) ((q4 u (by omega)).trans ((up7 u (by omega)).trans hu)) ((q4 n2 (by omega)).trans ((up7 n2 (by omega)).trans hm2)) (by omega) (mdI_st (hd := hd) ⟨⟨g0, m1, m2⟩, m3, m4⟩ (fun z c hz => lt1 z c hz) h40 hn q1 (fun g9 hg9 p hp => by
                    have z := hg9.symm.trans m1
                    cases z
                    exact q2 p hp) q3 ((q4 n1 (by omega)).trans g7) (fun z hz => (q4 z (by omega)).trans (up7 z hz)))
          · refine J_iload dX7_pair_138 rfl ?_
            refine J_goto (tgt := 164) dX7_pair_140 rfl ?_
            refine J_istore (L' := [(9, _), (8, _), (7, _), (6, _), (5, _), (0, _), (1, _), (2, _), (3, _), (4, _)]) dX7_pair_164 (by decide) rfl ?_
            refine J_aload dX7_pair_166 rfl ?_
            refine J_iconst (v := 5) dX7_pair_168 (by decide) ?_
            refine J_newi (N := 5) dX7_pair_169 ac_int (by decide) (by decide) (by decide) (by omega) (by omega) ?_
            refine J_up (fun A2 g2 o2 => ?_)
            have ho2 := (o2 h (by have := ltP _ _ hS0.1; omega)).trans ho
            refine J_dup dX7_pair_171 rfl ?_
            refine J_iconst (v := 0) dX7_pair_172 (by decide) ?_
            refine J_aload_n dX7_pair_173 rfl rfl ?_
            refine J_getf dX7_pair_174 fl_X7_42 ho2 rfl ?_
            refine J_iastQ 0 dX7_pair_177 g2 rfl (by decide) (by decide) (fun A3 g3 o3 => ?_)
            refine J_dup dX7_pair_178 rfl ?_
            refine J_iconst (v := 1) dX7_pair_179 (by decide) ?_
            refine J_iload dX7_pair_180 rfl ?_
            refine J_if_eq (tgt := 190) dX7_pair_182 rfl (fun h182 => ?_) (fun h182 => ?_)
            · first | exact absurd h182 (by decide) | exact absurd (by decide) h182
            · refine J_iload dX7_pair_185 rfl ?_
              refine J_goto (tgt := 192) dX7_pair_187 rfl ?_
              refine J_iastQ 1 dX7_pair_192 g3 rfl (by decide) (by decide) (fun A4 g4 o4 => ?_)
              refine J_dup dX7_pair_193 rfl ?_
              refine J_iconst (v := 2) dX7_pair_194 (by decide) ?_
              refine J_iload dX7_pair_195 rfl ?_
              refine J_if_eq (tgt := 205) dX7_pair_197 rfl (fun h197 => ?_) (fun h197 => ?_)
              · first | exact absurd h197 (by decide) | exact absurd (by decide) h197
              · refine J_iload dX7_pair_200 rfl ?_
                refine J_goto (tgt := 207) dX7_pair_202 rfl ?_
                refine J_iastQ 2 dX7_pair_207 g4 rfl (by decide) (by decide) (fun A5 g5 o5 => ?_)
                refine J_dup dX7_pair_208 rfl ?_
                refine J_iconst (v := 3) dX7_pair_209 (by decide) ?_
                refine J_iconst (v := -1) dX7_pair_210 (by decide) ?_
                refine J_iastQ 3 dX7_pair_211 g5 rfl (by decide) (by decide) (fun A6 g6 o6 => ?_)
                refine J_dup dX7_pair_212 rfl ?_
                refine J_iconst (v := 4) dX7_pair_213 (by decide) ?_
                refine J_iload dX7_pair_214 rfl ?_
                refine J_iastQ 4 dX7_pair_216 g6 rfl (by decide) (by decide) (fun A7 g7 o7 => ?_)
                have up7 : ∀ z, z < n1 → A7 z = A1 z := fun z hz => (o7 z (by omega)).trans ((o6 z (by omega)).trans ((o5 z (by omega)).trans ((o4 z (by omega)).trans ((o3 z (by omega)).trans (o2 z (by omega))))))
                rw [show upd (upd (upd (upd (upd (fun _ => 0) 0 _) 1 _) 2 _) 3 _) 4 _ = nbF S (f i) (f (mtP S f k i)) from by first | (unfold nbF flB; rw [if_pos hrd, if_pos hrd]; first | (rw [if_pos (Int32.not_le.mp (by assumption))]; done) | (rw [if_neg (Int32.not_lt.mpr (by assumption)), if_pos (Int32.not_le.mp (by assumption))]; done) | (rw [if_neg (Int32.not_lt.mpr (by assumption)), if_neg (Int32.not_lt.mpr (by assumption))]; done))] at g7
                obtain ⟨⟨g0, m1, m2⟩, m3, m4⟩ := hmd
                refine J_ltA (fun lt9 => ?_)
                refine J_callSg (As := [_, _]) dX7_pair_217 ml_X7_45 cal_X7_with rfl sm_X7_with rfl (Nat.le_of_ble_eq_true rfl) ⟨by decide, by decide⟩ ⟨by omega, by omega⟩ (c_X7_with hst ((up7 v (by omega)).trans m1) g7 (by have := prL_len (S := S) (f := f) (k := k) (i := i); omega) (fun p hp => ⟨_, _, m2 p hp, (up7 _ (m3 p hp).2.1).trans (m3 p hp).2.2⟩)) (fun v8 A8 n8 _ hQ => ?_) (fun _ _ _ _ hE => absurd hE.1 (fun z => nomatch z))
                obtain ⟨e8, hn8, ⟨g, q1, q2, q3⟩, q4⟩ := hQ
                subst n8
                cases e8
                refine J_astore (L' := [(4, _), (9, _), (8, _), (7, _), (6, _), (5, _), (0, _), (1, _), (2, _), (3, _)]) dX7_pair_220 (by decide) rfl ?_
                refine J_iinc (v := _ + 1) (L' := [(5, _), (4, _), (9, _), (8, _), (7, _), (6, _), (0, _), (1, _), (2, _), (3, _)]) dX7_pair_222 rfl rfl (by decide) rfl ?_
                refine J_goto (tgt := 28) dX7_pair_225 rfl ?_
                refine xx_J.pick [0, 6, 7, 8, 9, 1] rfl ?_
                exact ih _ A8 (n1 + 1 + 1) _ _ (n1 + 1) _ (by rw [hx]; exact nI_1 i) (by omega) (by omega) (fun z hz => (q4 z (by omega)).trans ((up7 z (by omega)).trans (h3 z hz))) ((q4 u (by omega)).trans ((up7 u (by omega)).trans hu)) ((q4 n2 (by omega)).trans ((up7 n2 (by omega)).trans hm2)) (by omega) (mdI_st (hd := hd) ⟨⟨g0, m1, m2⟩, m3, m4⟩ (fun z c hz => lt1 z c hz) h40 hn q1 (fun g9 hg9 p hp => by
                  have z := hg9.symm.trans m1
                  cases z
                  exact q2 p hp) q3 ((q4 n1 (by omega)).trans g7) (fun z hz => (q4 z (by omega)).trans (up7 z hz)))
        have rest0 : ¬ rdB S (f i) (f (mtP S f k i)) → xx_J G l mX7_pair 9 354 60 4000 (prQ S h nw n A) 121 [(7, .int (f (mtP S f k i))), (6, .int (f i)), (5, .int x), (0, .ref h), (1, .ref u), (2, .ref n2), (3, .int (nI k)), (4, .ref v)] [.int 0] A1 n1 k1 j1 := by
          intro hrd
          refine J_istore (L' := [(8, _), (7, _), (6, _), (5, _), (0, _), (1, _), (2, _), (3, _), (4, _)]) dX7_pair_121 (by decide) rfl ?_
          refine J_aload_n dX7_pair_123 rfl rfl ?_
          refine J_iload dX7_pair_124 rfl ?_
          refine J_callVr (As := [_]) dX7_pair_126 ml_X7_57 cal_X7_points im_X7_points se_X7_points ho rfl rfl rfl (Nat.le_of_ble_eq_true rfl) ⟨by decide, by decide⟩ ⟨by omega, by omega⟩ (c_X7_points hst hS1 hnb hnr _) ?_
          refine J_aload_n dX7_pair_129 rfl rfl ?_
          refine J_iload dX7_pair_130 rfl ?_
          refine J_callVr (As := [_]) dX7_pair_132 ml_X7_57 cal_X7_points im_X7_points se_X7_points ho rfl rfl rfl (Nat.le_of_ble_eq_true rfl) ⟨by decide, by decide⟩ ⟨by omega, by omega⟩ (c_X7_points hst hS1 hnb hnr _) ?_
          refine J_icmp_le (tgt := 143) dX7_pair_135 rfl (fun h135 => ?_) (fun h135 => ?_)
          · refine J_aload_n dX7_pair_143 rfl rfl ?_
            refine J_iload dX7_pair_144 rfl ?_
            refine J_callVr (As := [_]) dX7_pair_146 ml_X7_57 cal_X7_points im_X7_points se_X7_points ho rfl rfl rfl (Nat.le_of_ble_eq_true rfl) ⟨by decide, by decide⟩ ⟨by omega, by omega⟩ (c_X7_points hst hS1 hnb hnr _) ?_
            refine J_aload_n dX7_pair_149 rfl rfl ?_
            refine J_iload dX7_pair_150 rfl ?_
            refine J_callVr (As := [_]) dX7_pair_152 ml_X7_57 cal_X7_points im_X7_points se_X7_points ho rfl rfl rfl (Nat.le_of_ble_eq_true rfl) ⟨by decide, by decide⟩ ⟨by omega, by omega⟩ (c_X7_points hst hS1 hnb hnr _) ?_
            refine J_icmp_ge (tgt := 163) dX7_pair_155 rfl (fun h155 => ?_) (fun h155 => ?_)
            · refine J_iconst (v := -1) dX7_pair_163 (by decide) ?_
              refine J_istore (L' := [(9, _), (8, _), (7, _), (6, _), (5, _), (0, _), (1, _), (2, _), (3, _), (4, _)]) dX7_pair_164 (by decide) rfl ?_
              refine J_aload dX7_pair_166 rfl ?_
              refine J_iconst (v := 5) dX7_pair_168 (by decide) ?_
              refine J_newi (N := 5) dX7_pair_169 ac_int (by decide) (by decide) (by decide) (by omega) (by omega) ?_
              refine J_up (fun A2 g2 o2 => ?_)
              have ho2 := (o2 h (by have := ltP _ _ hS0.1; omega)).trans ho
              refine J_dup dX7_pair_171 rfl ?_
              refine J_iconst (v := 0) dX7_pair_172 (by decide) ?_
              refine J_aload_n dX7_pair_173 rfl rfl ?_
              refine J_getf dX7_pair_174 fl_X7_42 ho2 rfl ?_
              refine J_iastQ 0 dX7_pair_177 g2 rfl (by decide) (by decide) (fun A3 g3 o3 => ?_)
              refine J_dup dX7_pair_178 rfl ?_
              refine J_iconst (v := 1) dX7_pair_179 (by decide) ?_
              refine J_iload dX7_pair_180 rfl ?_
              refine J_if_eq (tgt := 190) dX7_pair_182 rfl (fun h182 => ?_) (fun h182 => ?_)
              · refine J_iload dX7_pair_190 rfl ?_
                refine J_iastQ 1 dX7_pair_192 g3 rfl (by decide) (by decide) (fun A4 g4 o4 => ?_)
                refine J_dup dX7_pair_193 rfl ?_
                refine J_iconst (v := 2) dX7_pair_194 (by decide) ?_
                refine J_iload dX7_pair_195 rfl ?_
                refine J_if_eq (tgt := 205) dX7_pair_197 rfl (fun h197 => ?_) (fun h197 => ?_)
                · refine J_iload dX7_pair_205 rfl ?_
                  refine J_iastQ 2 dX7_pair_207 g4 rfl (by decide) (by decide) (fun A5 g5 o5 => ?_)
                  refine J_dup dX7_pair_208 rfl ?_
                  refine J_iconst (v := 3) dX7_pair_209 (by decide) ?_
                  refine J_iconst (v := -1) dX7_pair_210 (by decide) ?_
                  refine J_iastQ 3 dX7_pair_211 g5 rfl (by decide) (by decide) (fun A6 g6 o6 => ?_)
                  refine J_dup dX7_pair_212 rfl ?_
                  refine J_iconst (v := 4) dX7_pair_213 (by decide) ?_
                  refine J_iload dX7_pair_214 rfl ?_
                  refine J_iastQ 4 dX7_pair_216 g6 rfl (by decide) (by decide) (fun A7 g7 o7 => ?_)
                  have up7 : ∀ z, z < n1 → A7 z = A1 z := fun z hz => (o7 z (by omega)).trans ((o6 z (by omega)).trans ((o5 z (by omega)).trans ((o4 z (by omega)).trans ((o3 z (by omega)).trans (o2 z (by omega))))))
                  rw [show upd (upd (upd (upd (upd (fun _ => 0) 0 _) 1 _) 2 _) 3 _) 4 _ = nbF S (f i) (f (mtP S f k i)) from by first | (unfold nbF flB; rw [if_neg hrd, if_neg hrd]; first | (rw [if_pos (Int32.not_le.mp (by assumption))]; done) | (rw [if_neg (Int32.not_lt.mpr (by assumption)), if_pos (Int32.not_le.mp (by assumption))]; done) | (rw [if_neg (Int32.not_lt.mpr (by assumption)), if_neg (Int32.not_lt.mpr (by assumption))]; done))] at g7
                  obtain ⟨⟨g0, m1, m2⟩, m3, m4⟩ := hmd
                  refine J_ltA (fun lt9 => ?_)
                  refine J_callSg (As := [_, _]) dX7_pair_217 ml_X7_45 cal_X7_with rfl sm_X7_with rfl (Nat.le_of_ble_eq_true rfl) ⟨by decide, by decide⟩ ⟨by omega, by omega⟩ (c_X7_with hst ((up7 v (by omega)).trans m1) g7 (by have := prL_len (S := S) (f := f) (k := k) (i := i); omega) (fun p hp => ⟨_, _, m2 p hp, (up7 _ (m3 p hp).2.1).trans (m3 p hp).2.2⟩)) (fun v8 A8 n8 _ hQ => ?_) (fun _ _ _ _ hE => absurd hE.1 (fun z => nomatch z))
                  obtain ⟨e8, hn8, ⟨g, q1, q2, q3⟩, q4⟩ := hQ
                  subst n8
                  cases e8
                  refine J_astore (L' := [(4, _), (9, _), (8, _), (7, _), (6, _), (5, _), (0, _), (1, _), (2, _), (3, _)]) dX7_pair_220 (by decide) rfl ?_
                  refine J_iinc (v := _ + 1) (L' := [(5, _), (4, _), (9, _), (8, _), (7, _), (6, _), (0, _), (1, _), (2, _), (3, _)]) dX7_pair_222 rfl rfl (by decide) rfl ?_
                  refine J_goto (tgt := 28) dX7_pair_225 rfl ?_
                  refine xx_J.pick [0, 6, 7, 8, 9, 1] rfl ?_
                  exact ih _ A8 (n1 + 1 + 1) _ _ (n1 + 1) _ (by rw [hx]; exact nI_1 i) (by omega) (by omega) (fun z hz => (q4 z (by omega)).trans ((up7 z (by omega)).trans (h3 z hz))) ((q4 u (by omega)).trans ((up7 u (by omega)).trans hu)) ((q4 n2 (by omega)).trans ((up7 n2 (by omega)).trans hm2)) (by omega) (mdI_st (hd := hd) ⟨⟨g0, m1, m2⟩, m3, m4⟩ (fun z c hz => lt1 z c hz) h40 hn q1 (fun g9 hg9 p hp => by
                    have z := hg9.symm.trans m1
                    cases z
                    exact q2 p hp) q3 ((q4 n1 (by omega)).trans g7) (fun z hz => (q4 z (by omega)).trans (up7 z hz)))
                · first | exact absurd h197 (by decide) | exact absurd (by decide) h197
              · first | exact absurd h182 (by decide) | exact absurd (by decide) h182
            · refine J_iload dX7_pair_158 rfl ?_
              refine J_goto (tgt := 164) dX7_pair_160 rfl ?_
              refine J_istore (L' := [(9, _), (8, _), (7, _), (6, _), (5, _), (0, _), (1, _), (2, _), (3, _), (4, _)]) dX7_pair_164 (by decide) rfl ?_
              refine J_aload dX7_pair_166 rfl ?_
              refine J_iconst (v := 5) dX7_pair_168 (by decide) ?_
              refine J_newi (N := 5) dX7_pair_169 ac_int (by decide) (by decide) (by decide) (by omega) (by omega) ?_
              refine J_up (fun A2 g2 o2 => ?_)
              have ho2 := (o2 h (by have := ltP _ _ hS0.1; omega)).trans ho
              refine J_dup dX7_pair_171 rfl ?_
              refine J_iconst (v := 0) dX7_pair_172 (by decide) ?_
              refine J_aload_n dX7_pair_173 rfl rfl ?_
              refine J_getf dX7_pair_174 fl_X7_42 ho2 rfl ?_
              refine J_iastQ 0 dX7_pair_177 g2 rfl (by decide) (by decide) (fun A3 g3 o3 => ?_)
              refine J_dup dX7_pair_178 rfl ?_
              refine J_iconst (v := 1) dX7_pair_179 (by decide) ?_
              refine J_iload dX7_pair_180 rfl ?_
              refine J_if_eq (tgt := 190) dX7_pair_182 rfl (fun h182 => ?_) (fun h182 => ?_)
              · refine J_iload dX7_pair_190 rfl ?_
                refine J_iastQ 1 dX7_pair_192 g3 rfl (by decide) (by decide) (fun A4 g4 o4 => ?_)
                refine J_dup dX7_pair_193 rfl ?_
                refine J_iconst (v := 2) dX7_pair_194 (by decide) ?_
                refine J_iload dX7_pair_195 rfl ?_
                refine J_if_eq (tgt := 205) dX7_pair_197 rfl (fun h197 => ?_) (fun h197 => ?_)
                · refine J_iload dX7_pair_205 rfl ?_
                  refine J_iastQ 2 dX7_pair_207 g4 rfl (by decide) (by decide) (fun A5 g5 o5 => ?_)
                  refine J_dup dX7_pair_208 rfl ?_
                  refine J_iconst (v := 3) dX7_pair_209 (by decide) ?_
                  refine J_iconst (v := -1) dX7_pair_210 (by decide) ?_
                  refine J_iastQ 3 dX7_pair_211 g5 rfl (by decide) (by decide) (fun A6 g6 o6 => ?_)
                  refine J_dup dX7_pair_212 rfl ?_
                  refine J_iconst (v := 4) dX7_pair_213 (by decide) ?_
                  refine J_iload dX7_pair_214 rfl ?_
                  refine J_iastQ 4 dX7_pair_216 g6 rfl (by decide) (by decide) (fun A7 g7 o7 => ?_)
                  have up7 : ∀ z, z < n1 → A7 z = A1 z := fun z hz => (o7 z (by omega)).trans ((o6 z (by omega)).trans ((o5 z (by omega)).trans ((o4 z (by omega)).trans ((o3 z (by omega)).trans (o2 z (by omega))))))
                  rw [show upd (upd (upd (upd (upd (fun _ => 0) 0 _) 1 _) 2 _) 3 _) 4 _ = nbF S (f i) (f (mtP S f k i)) from by first | (unfold nbF flB; rw [if_neg hrd, if_neg hrd]; first | (rw [if_pos (Int32.not_le.mp (by assumption))]; done) | (rw [if_neg (Int32.not_lt.mpr (by assumption)), if_pos (Int32.not_le.mp (by assumption))]; done) | (rw [if_neg (Int32.not_lt.mpr (by assumption)), if_neg (Int32.not_lt.mpr (by assumption))]; done))] at g7
                  obtain ⟨⟨g0, m1, m2⟩, m3, m4⟩ := hmd
                  refine J_ltA (fun lt9 => ?_)
                  refine J_callSg (As := [_, _]) dX7_pair_217 ml_X7_45 cal_X7_with rfl sm_X7_with rfl (Nat.le_of_ble_eq_true rfl) ⟨by decide, by decide⟩ ⟨by omega, by omega⟩ (c_X7_with hst ((up7 v (by omega)).trans m1) g7 (by have := prL_len (S := S) (f := f) (k := k) (i := i); omega) (fun p hp => ⟨_, _, m2 p hp, (up7 _ (m3 p hp).2.1).trans (m3 p hp).2.2⟩)) (fun v8 A8 n8 _ hQ => ?_) (fun _ _ _ _ hE => absurd hE.1 (fun z => nomatch z))
                  obtain ⟨e8, hn8, ⟨g, q1, q2, q3⟩, q4⟩ := hQ
                  subst n8
                  cases e8
                  refine J_astore (L' := [(4, _), (9, _), (8, _), (7, _), (6, _), (5, _), (0, _), (1, _), (2, _), (3, _)]) dX7_pair_220 (by decide) rfl ?_
                  refine J_iinc (v := _ + 1) (L' := [(5, _), (4, _), (9, _), (8, _), (7, _), (6, _), (0, _), (1, _), (2, _), (3, _)]) dX7_pair_222 rfl rfl (by decide) rfl ?_
                  refine J_goto (tgt := 28) dX7_pair_225 rfl ?_
                  refine xx_J.pick [0, 6, 7, 8, 9, 1] rfl ?_
                  exact ih _ A8 (n1 + 1 + 1) _ _ (n1 + 1) _ (by rw [hx]; exact nI_1 i) (by omega) (by omega) (fun z hz => (q4 z (by omega)).trans ((up7 z (by omega)).trans (h3 z hz))) ((q4 u (by omega)).trans ((up7 u (by omega)).trans hu)) ((q4 n2 (by omega)).trans ((up7 n2 (by omega)).trans hm2)) (by omega) (mdI_st (hd := hd) ⟨⟨g0, m1, m2⟩, m3, m4⟩ (fun z c hz => lt1 z c hz) h40 hn q1 (fun g9 hg9 p hp => by
                    have z := hg9.symm.trans m1
                    cases z
                    exact q2 p hp) q3 ((q4 n1 (by omega)).trans g7) (fun z hz => (q4 z (by omega)).trans (up7 z hz)))
                · first | exact absurd h197 (by decide) | exact absurd (by decide) h197
              · first | exact absurd h182 (by decide) | exact absurd (by decide) h182
          · refine J_iload dX7_pair_138 rfl ?_
            refine J_goto (tgt := 164) dX7_pair_140 rfl ?_
            refine J_istore (L' := [(9, _), (8, _), (7, _), (6, _), (5, _), (0, _), (1, _), (2, _), (3, _), (4, _)]) dX7_pair_164 (by decide) rfl ?_
            refine J_aload dX7_pair_166 rfl ?_
            refine J_iconst (v := 5) dX7_pair_168 (by decide) ?_
            refine J_newi (N := 5) dX7_pair_169 ac_int (by decide) (by decide) (by decide) (by omega) (by omega) ?_
            refine J_up (fun A2 g2 o2 => ?_)
            have ho2 := (o2 h (by have := ltP _ _ hS0.1; omega)).trans ho
            refine J_dup dX7_pair_171 rfl ?_
            refine J_iconst (v := 0) dX7_pair_172 (by decide) ?_
            refine J_aload_n dX7_pair_173 rfl rfl ?_
            refine J_getf dX7_pair_174 fl_X7_42 ho2 rfl ?_
            refine J_iastQ 0 dX7_pair_177 g2 rfl (by decide) (by decide) (fun A3 g3 o3 => ?_)
            refine J_dup dX7_pair_178 rfl ?_
            refine J_iconst (v := 1) dX7_pair_179 (by decide) ?_
            refine J_iload dX7_pair_180 rfl ?_
            refine J_if_eq (tgt := 190) dX7_pair_182 rfl (fun h182 => ?_) (fun h182 => ?_)
            · refine J_iload dX7_pair_190 rfl ?_
              refine J_iastQ 1 dX7_pair_192 g3 rfl (by decide) (by decide) (fun A4 g4 o4 => ?_)
              refine J_dup dX7_pair_193 rfl ?_
              refine J_iconst (v := 2) dX7_pair_194 (by decide) ?_
              refine J_iload dX7_pair_195 rfl ?_
              refine J_if_eq (tgt := 205) dX7_pair_197 rfl (fun h197 => ?_) (fun h197 => ?_)
              · refine J_iload dX7_pair_205 rfl ?_
                refine J_iastQ 2 dX7_pair_207 g4 rfl (by decide) (by decide) (fun A5 g5 o5 => ?_)
                refine J_dup dX7_pair_208 rfl ?_
                refine J_iconst (v := 3) dX7_pair_209 (by decide) ?_
                refine J_iconst (v := -1) dX7_pair_210 (by decide) ?_
                refine J_iastQ 3 dX7_pair_211 g5 rfl (by decide) (by decide) (fun A6 g6 o6 => ?_)
                refine J_dup dX7_pair_212 rfl ?_
                refine J_iconst (v := 4) dX7_pair_213 (by decide) ?_
                refine J_iload dX7_pair_214 rfl ?_
                refine J_iastQ 4 dX7_pair_216 g6 rfl (by decide) (by decide) (fun A7 g7 o7 => ?_)
                have up7 : ∀ z, z < n1 → A7 z = A1 z := fun z hz => (o7 z (by omega)).trans ((o6 z (by omega)).trans ((o5 z (by omega)).trans ((o4 z (by omega)).trans ((o3 z (by omega)).trans (o2 z (by omega))))))
                rw [show upd (upd (upd (upd (upd (fun _ => 0) 0 _) 1 _) 2 _) 3 _) 4 _ = nbF S (f i) (f (mtP S f k i)) from by first | (unfold nbF flB; rw [if_neg hrd, if_neg hrd]; first | (rw [if_pos (Int32.not_le.mp (by assumption))]; done) | (rw [if_neg (Int32.not_lt.mpr (by assumption)), if_pos (Int32.not_le.mp (by assumption))]; done) | (rw [if_neg (Int32.not_lt.mpr (by assumption)), if_neg (Int32.not_lt.mpr (by assumption))]; done))] at g7
                obtain ⟨⟨g0, m1, m2⟩, m3, m4⟩ := hmd
                refine J_ltA (fun lt9 => ?_)
                refine J_callSg (As := [_, _]) dX7_pair_217 ml_X7_45 cal_X7_with rfl sm_X7_with rfl (Nat.le_of_ble_eq_true rfl) ⟨by decide, by decide⟩ ⟨by omega, by omega⟩ (c_X7_with hst ((up7 v (by omega)).trans m1) g7 (by have := prL_len (S := S) (f := f) (k := k) (i := i); omega) (fun p hp => ⟨_, _, m2 p hp, (up7 _ (m3 p hp).2.1).trans (m3 p hp).2.2⟩)) (fun v8 A8 n8 _ hQ => ?_) (fun _ _ _ _ hE => absurd hE.1 (fun z => nomatch z))
                obtain ⟨e8, hn8, ⟨g, q1, q2, q3⟩, q4⟩ := hQ
                subst n8
                cases e8
                refine J_astore (L' := [(4, _), (9, _), (8, _), (7, _), (6, _), (5, _), (0, _), (1, _), (2, _), (3, _)]) dX7_pair_220 (by decide) rfl ?_
                refine J_iinc (v := _ + 1) (L' := [(5, _), (4, _), (9, _), (8, _), (7, _), (6, _), (0, _), (1, _), (2, _), (3, _)]) dX7_pair_222 rfl rfl (by decide) rfl ?_
                refine J_goto (tgt := 28) dX7_pair_225 rfl ?_
                refine xx_J.pick [0, 6, 7, 8, 9, 1] rfl ?_
                exact ih _ A8 (n1 + 1 + 1) _ _ (n1 + 1) _ (by rw [hx]; exact nI_1 i) (by omega) (by omega) (fun z hz => (q4 z (by omega)).trans ((up7 z (by omega)).trans (h3 z hz))) ((q4 u (by omega)).trans ((up7 u (by omega)).trans hu)) ((q4 n2 (by omega)).trans ((up7 n2 (by omega)).trans hm2)) (by omega) (mdI_st (hd := hd) ⟨⟨g0, m1, m2⟩, m3, m4⟩ (fun z c hz => lt1 z c hz) h40 hn q1 (fun g9 hg9 p hp => by
                  have z := hg9.symm.trans m1
                  cases z
                  exact q2 p hp) q3 ((q4 n1 (by omega)).trans g7) (fun z hz => (q4 z (by omega)).trans (up7 z hz)))
              · first | exact absurd h197 (by decide) | exact absurd (by decide) h197
            · first | exact absurd h182 (by decide) | exact absurd (by decide) h182
        refine J_iload dX7_pair_28 rfl ?_
        refine J_iload_n dX7_pair_30 rfl rfl ?_
        refine J_icmp_ge (tgt := 228) dX7_pair_31 rfl (fun h31 => ?_) (fun h31 => ?_)
        · first | (exfalso; simp only [i_lt, i_le, i_eq, i_0, i_1, i_2, i_3, i_4, i_5, i_6, i_8, i_9, i_10, i_12, i_16, i_20, i_m1] at h31; omega) | (exfalso; simp only [s_up, a_up, va_up, i_lt, i_le, i_eq, i_0, i_1, i_2, i_3, i_4, i_5, i_6, i_8, i_9, i_10, i_12, i_16, i_20, i_m1, ↓reduceIte, Nat.reduceEqDiff] at h31; omega)
        · refine J_aload_n dX7_pair_34 rfl rfl ?_
          refine J_iload dX7_pair_35 rfl ?_
          refine J_ialdN i dX7_pair_37 hm2 hx (by omega) (by decide) ?_
          rw [eb]
          refine J_iload dX7_pair_38 rfl ?_
          refine J_icmp_ge (tgt := 46) dX7_pair_40 rfl (fun _ => ?_) (fun z => absurd z (by simp only [i_lt, i_le, em, ex]; omega))
          refine J_aload_n dX7_pair_46 rfl rfl ?_
          refine J_iload dX7_pair_47 rfl ?_
          refine J_ialdN (i) dX7_pair_49 hu hx (by omega) (by omega) ?_
          refine J_istore (L' := [(6, _), (5, _), (0, _), (1, _), (2, _), (3, _), (4, _)]) dX7_pair_50 (by decide) rfl ?_
          refine J_aload_n dX7_pair_52 rfl rfl ?_
          refine J_aload_n dX7_pair_53 rfl rfl ?_
          refine J_iload dX7_pair_54 rfl ?_
          refine J_ialdN i dX7_pair_56 hm2 hx (by omega) (by decide) ?_
          rw [eb]
          refine J_ialdN (mtP S f k i) dX7_pair_57 hu rfl (by omega) (by omega) ?_
          refine J_istore (L' := [(7, _), (6, _), (5, _), (0, _), (1, _), (2, _), (3, _), (4, _)]) dX7_pair_58 (by decide) rfl ?_
          refine J_aload_n dX7_pair_60 rfl rfl ?_
          refine J_iload dX7_pair_61 rfl ?_
          refine J_callVr (As := [_]) dX7_pair_63 ml_X7_60 cal_X7_belts im_X7_belts se_X7_belts ho rfl rfl rfl (Nat.le_of_ble_eq_true rfl) ⟨by decide, by decide⟩ ⟨by omega, by omega⟩ (c_X7_belts hst hS1 hnb hnr _) ?_
          refine J_aload_n dX7_pair_66 rfl rfl ?_
          refine J_iload dX7_pair_67 rfl ?_
          refine J_callVr (As := [_]) dX7_pair_69 ml_X7_60 cal_X7_belts im_X7_belts se_X7_belts ho rfl rfl rfl (Nat.le_of_ble_eq_true rfl) ⟨by decide, by decide⟩ ⟨by omega, by omega⟩ (c_X7_belts hst hS1 hnb hnr _) ?_
          refine J_icmp_eq (tgt := 98) dX7_pair_72 rfl (fun h72 => ?_) (fun h72 => ?_)
          · refine J_aload_n dX7_pair_98 rfl rfl ?_
            refine J_iload dX7_pair_99 rfl ?_
            refine J_callVr (As := [_]) dX7_pair_101 ml_X7_98 cal_X7_wasBlue im_X7_wasBlue se_X7_wasBlue ho rfl rfl rfl (Nat.le_of_ble_eq_true rfl) ⟨by decide, by decide⟩ ⟨by omega, by omega⟩ (c_X7_wasBlue hst hS1 hnb hnr _) ?_
            refine J_if_eq (tgt := 116) dX7_pair_104 rfl (fun h104 => ?_) (fun h104 => ?_)
            · refine J_iconst (v := 1) dX7_pair_116 (by decide) ?_
              refine J_goto (tgt := 121) dX7_pair_117 rfl ?_
              refine xx_J.pick [0, 1, 2, 3, 4, 5, 6, 7] rfl ?_
              exact rest1 (by first | exact Or.inl ⟨h72, Int32.not_le.mp h87⟩ | exact Or.inr ⟨h72, Or.inl h104⟩ | exact Or.inr ⟨h72, Or.inr h113⟩)
            · refine J_aload_n dX7_pair_107 rfl rfl ?_
              refine J_iload dX7_pair_108 rfl ?_
              refine J_callVr (As := [_]) dX7_pair_110 ml_X7_98 cal_X7_wasBlue im_X7_wasBlue se_X7_wasBlue ho rfl rfl rfl (Nat.le_of_ble_eq_true rfl) ⟨by decide, by decide⟩ ⟨by omega, by omega⟩ (c_X7_wasBlue hst hS1 hnb hnr _) ?_
              refine J_if_eq (tgt := 120) dX7_pair_113 rfl (fun h113 => ?_) (fun h113 => ?_)
              · refine J_iconst (v := 0) dX7_pair_120 (by decide) ?_
                refine xx_J.pick [0, 1, 2, 3, 4, 5, 6, 7] rfl ?_
                exact rest0 (fun z => by rcases z with ⟨z1, z2⟩ | ⟨z1, z2⟩ <;> first | contradiction | exact absurd z2 (Int32.not_lt.mpr h87) | (rcases z2 with z2 | z2 <;> contradiction))
              · refine J_iconst (v := 1) dX7_pair_116 (by decide) ?_
                refine J_goto (tgt := 121) dX7_pair_117 rfl ?_
                refine xx_J.pick [0, 1, 2, 3, 4, 5, 6, 7] rfl ?_
                exact rest1 (by first | exact Or.inl ⟨h72, Int32.not_le.mp h87⟩ | exact Or.inr ⟨h72, Or.inl h104⟩ | exact Or.inr ⟨h72, Or.inr h113⟩)
          · refine J_aload_n dX7_pair_75 rfl rfl ?_
            refine J_iload dX7_pair_76 rfl ?_
            refine J_callVr (As := [_]) dX7_pair_78 ml_X7_60 cal_X7_belts im_X7_belts se_X7_belts ho rfl rfl rfl (Nat.le_of_ble_eq_true rfl) ⟨by decide, by decide⟩ ⟨by omega, by omega⟩ (c_X7_belts hst hS1 hnb hnr _) ?_
            refine J_aload_n dX7_pair_81 rfl rfl ?_
            refine J_iload dX7_pair_82 rfl ?_
            refine J_callVr (As := [_]) dX7_pair_84 ml_X7_60 cal_X7_belts im_X7_belts se_X7_belts ho rfl rfl rfl (Nat.le_of_ble_eq_true rfl) ⟨by decide, by decide⟩ ⟨by omega, by omega⟩ (c_X7_belts hst hS1 hnb hnr _) ?_
            refine J_icmp_ge (tgt := 94) dX7_pair_87 rfl (fun h87 => ?_) (fun h87 => ?_)
            · refine J_iconst (v := 0) dX7_pair_94 (by decide) ?_
              refine J_goto (tgt := 121) dX7_pair_95 rfl ?_
              refine xx_J.pick [0, 1, 2, 3, 4, 5, 6, 7] rfl ?_
              exact rest0 (fun z => by rcases z with ⟨z1, z2⟩ | ⟨z1, z2⟩ <;> first | contradiction | exact absurd z2 (Int32.not_lt.mpr h87) | (rcases z2 with z2 | z2 <;> contradiction))
            · refine J_iconst (v := 1) dX7_pair_90 (by decide) ?_
              refine J_goto (tgt := 121) dX7_pair_91 rfl ?_
              refine xx_J.pick [0, 1, 2, 3, 4, 5, 6, 7] rfl ?_
              exact rest1 (by first | exact Or.inl ⟨h72, Int32.not_le.mp h87⟩ | exact Or.inr ⟨h72, Or.inl h104⟩ | exact Or.inr ⟨h72, Or.inr h113⟩)
      · refine J_iload dX7_pair_28 rfl ?_
        refine J_iload_n dX7_pair_30 rfl rfl ?_
        refine J_icmp_ge (tgt := 228) dX7_pair_31 rfl (fun h31 => ?_) (fun h31 => ?_)
        · first | (exfalso; simp only [i_lt, i_le, i_eq, i_0, i_1, i_2, i_3, i_4, i_5, i_6, i_8, i_9, i_10, i_12, i_16, i_20, i_m1] at h31; omega) | (exfalso; simp only [s_up, a_up, va_up, i_lt, i_le, i_eq, i_0, i_1, i_2, i_3, i_4, i_5, i_6, i_8, i_9, i_10, i_12, i_16, i_20, i_m1, ↓reduceIte, Nat.reduceEqDiff] at h31; omega)
        · refine J_aload_n dX7_pair_34 rfl rfl ?_
          refine J_iload dX7_pair_35 rfl ?_
          refine J_ialdN i dX7_pair_37 hm2 hx (by omega) (by decide) ?_
          rw [eb]
          refine J_iload dX7_pair_38 rfl ?_
          refine J_icmp_ge (tgt := 46) dX7_pair_40 rfl (fun z => absurd z (by simp only [i_lt, i_le, em, ex]; omega)) (fun _ => ?_)
          refine J_goto (tgt := 222) dX7_pair_43 rfl ?_
          refine J_iinc (v := _ + 1) (L' := [(5, _), (0, _), (1, _), (2, _), (3, _), (4, _)]) dX7_pair_222 rfl rfl (by decide) rfl ?_
          refine J_goto (tgt := 28) dX7_pair_225 rfl ?_
          refine xx_J.pick [0, 1, 2, 3, 4, 5] rfl ?_
          exact ih _ A1 n1 k1 j1 v hd (by rw [hx]; exact nI_1 i) hn (by omega) h3 hu hm2 huv (mdI_sk hmd h40)
  refine xx_J.pick [0, 5, 4, 3, 2, 1] rfl ?_
  exact loop 0 (Nat.zero_le _) _ _ _ _ _ _ (fun _ => 0) rfl (by omega) (by omega) (fun z hz => (o4 z (by omega)).trans ((k3 z (by omega)).trans (k2f z hz))) ((o4 u (by omega)).trans ((k3 u (by omega)).trans hu)) ((o4 n2 (by omega)).trans hm2) (by omega) ⟨⟨_, g4, fun p hp => absurd hp (Nat.not_lt_zero p)⟩, fun p hp => absurd hp (Nat.not_lt_zero p), fun p q hp => absurd hp (Nat.not_lt_zero p)⟩
end XSP
