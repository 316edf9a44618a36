/-! Sim.tryOut, mates: all ways to pair, the first of the best -/
section XST
variable {G : xx_G} {l : Launch} {A A' : xx_H} {n : Nat} {k j i q s e t d : Nat}
/-- whom q meets in the best pairing of the set s -/
def prM (met : Nat → Nat → Bool) (k : Nat) : Nat → Nat → Nat → Nat
  | 0, _, q => q
  | p + 1, s, q => if q = low s then prt met k p s else if q = prt met k p s then low s else prM met k p (clr (clr s (low s)) (prt met k p s)) q
def tryP (met : Nat → Nat → Bool) (k P s ρ B : Nat) (mt bs bs' : Nat → Int32) : Prop := (ρ + mr met k P s < B → bs' 12 = nI (ρ + mr met k P s) ∧ ∀ q, q < k → bs' q = if s.testBit q = true then nI (prM met k P s q) else mt q) ∧ (¬ ρ + mr met k P s < B → bs' 12 = nI B ∧ ∀ q, q < k → bs' q = bs q)
def tryQ (met : Nat → Nat → Bool) (k P s ρ B v w n : Nat) (mt bs : Nat → Int32) (A : xx_H) : xx_Q := xx_wr none n (fun A' => ∃ bs', A' w = some (.inl (0, 13, .inl bs')) ∧ A' v = some (.inl (0, 12, .inl mt)) ∧ (∀ z, z ≠ v → z ≠ w → A' z = A z) ∧ tryP met k P s ρ B mt bs bs')
abbrev metS (S : sS) (rw_ : Nat → Int32) (a c : Nat) : Bool := decide (0 < mtS S (rw_ a) (rw_ c) 99)
def mtOK (k s : Nat) (mt : Nat → Int32) : Prop := ∀ q, q < k → (s.testBit q = true → mt q = -1) ∧ (¬ s.testBit q = true → ∃ z, mt q = nI z ∧ z < 12)
def TryC (G : xx_G) (l : Launch) (h : Nat) (S : sS) (u m k : Nat) (rw_ : Nat → Int32) (P : Nat) : Prop := ∀ (A : xx_H) (n v w s ρ B : Nat) (mt bs : Nat → Int32) (y : Int32), v ≠ w → v ≠ u → w ≠ u → (∀ A', (∀ z, z ≠ v → z ≠ w → A' z = A z) → simW h S A') → A u = some (.inl (0, m, .inl rw_)) → A v = some (.inl (0, 12, .inl mt)) → A w = some (.inl (0, 13, .inl bs)) → s < 2 ^ k → pcn s 12 = 2 * P → mtOK k s mt → y = nI ρ → ρ + P ≤ 20 → bs 12 = nI B → B ≤ 99 → xx_C G l yX7_tryOut mX7_tryOut (P + 1) (60 + 40 * P) 0 0 [.ref h, .ref u, .ref v, .ref w, .int y] A n (tryQ (metS S rw_) k P s ρ B v w n mt bs A)
theorem mr_min {met : Nat → Nat → Bool} {p : Nat} (h12 : k ≤ 12) (hs : s < 2 ^ k) (hp : pcn s 12 = 2 * (p + 1)) {b : Nat} (hb : mr_t s b = true) : mr met k (p + 1) s ≤ mr_g met k p s b := by
  obtain ⟨-, -, h2, -, h4⟩ := ev_step h12 hs hp
  obtain ⟨g1, g2, -⟩ := h4 b hb
  exact mnv_in _ _ _ b (by omega) (by omega) hb
/-- what stands behind the places up to i -/
def trI (met : Nat → Nat → Bool) (k p s ρ B : Nat) (mt bs : Nat → Int32) (i Bi : Nat) (bi : Nat → Int32) : Prop := bi 12 = nI Bi ∧ Bi ≤ B ∧ ((Bi = B ∧ (∀ q, q < k → bi q = bs q) ∧ ∀ b, low s < b → b < i → mr_t s b = true → B ≤ ρ + mr_g met k p s b) ∨ ∃ b0, low s < b0 ∧ b0 < i ∧ mr_t s b0 = true ∧ Bi = ρ + mr_g met k p s b0 ∧ Bi < B ∧ (∀ b, low s < b → b < b0 → mr_t s b = true → Bi < ρ + mr_g met k p s b) ∧ (∀ b, b0 ≤ b → b < i → mr_t s b = true → Bi ≤ ρ + mr_g met k p s b) ∧ ∀ q, q < k → bi q = if q = low s then nI b0 else if q = b0 then nI (low s) else if (clr (clr s (low s)) b0).testBit q = true then nI (prM met k p (clr (clr s (low s)) b0) q) else mt q)
theorem trI_skip {met : Nat → Nat → Bool} {p ρ B Bi : Nat} {mt bs bi : Nat → Int32} (h : trI met k p s ρ B mt bs i Bi bi) (hi : ¬ mr_t s i = true) : trI met k p s ρ B mt bs (i + 1) Bi bi := by
  obtain ⟨h1, h2, h3⟩ := h
  refine ⟨h1, h2, ?_⟩
  rcases h3 with ⟨a1, a2, a3⟩ | ⟨b0, a1, a2, a3, a4, a5, a6, a7, a8⟩
  · refine Or.inl ⟨a1, a2, fun b b1 b2 b3 => ?_⟩
    by_cases e : b = i
    · subst e; exact absurd b3 hi
    · exact a3 b b1 (by omega) b3
  · refine Or.inr ⟨b0, a1, by omega, a3, a4, a5, a6, fun b b1 b2 b3 => ?_, a8⟩
    by_cases e : b = i
    · subst e; exact absurd b3 hi
    · exact a7 b b1 (by omega) b3
theorem trI_try {met : Nat → Nat → Bool} {p ρ B Bi : Nat} {mt mt' bs bi bs' : Nat → Int32} (h : trI met k p s ρ B mt bs i Bi bi) (hli : low s < i) (hik : i < k) (hi : mr_t s i = true) (hm1 : mt' (low s) = nI i) (hm2 : mt' i = nI (low s)) (hm3 : ∀ q, ¬ q = low s → ¬ q = i → mt' q = mt q)
    (ht : tryP met k p (clr (clr s (low s)) i) (ρ + if met (low s) i = true then 1 else 0) Bi mt' bi bs') : ∃ Bi', trI met k p s ρ B mt bs (i + 1) Bi' bs' ∧ Bi' ≤ Bi := by
  obtain ⟨h1, h2, h3⟩ := h
  have eg : (ρ + if met (low s) i = true then 1 else 0) + mr met k p (clr (clr s (low s)) i) = ρ + mr_g met k p s i := by show _ = ρ + (_ + _); omega
  unfold tryP at ht
  rw [eg] at ht
  by_cases hlt : ρ + mr_g met k p s i < Bi
  · obtain ⟨g1, g2⟩ := ht.1 hlt
    refine ⟨_, ⟨g1, by omega, Or.inr ⟨i, hli, Nat.lt_succ_self _, hi, rfl, by omega, fun b b1 b2 b3 => ?_, fun b b1 b2 b3 => ?_, fun q hq => ?_⟩⟩, by omega⟩
    · rcases h3 with ⟨a1, a2, a3⟩ | ⟨b0, a1, a2, a3, a4, a5, a6, a7, a8⟩
      · have := a3 b b1 b2 b3; omega
      · by_cases e : b < b0
        · have := a6 b b1 e b3; omega
        · have := a7 b (by omega) b2 b3; omega
    · have e : b = i := by omega
      subst e; exact Nat.le_refl _
    · rw [g2 q hq]
      have t1 : ¬ (clr (clr s (low s)) i).testBit (low s) = true := by rw [clr_t, clr_t]; simp
      have t2 : ¬ (clr (clr s (low s)) i).testBit i = true := by rw [clr_t]; simp
      by_cases e1 : q = low s
      · subst e1; rw [if_neg t1, if_pos rfl, hm1]
      · rw [if_neg e1]
        by_cases e2 : q = i
        · subst e2; rw [if_neg t2, if_pos rfl, hm2]
        · rw [if_neg e2]
          split
          · rfl
          · exact hm3 q e1 e2
  · obtain ⟨g1, g2⟩ := ht.2 hlt
    refine ⟨Bi, ⟨g1, h2, ?_⟩, Nat.le_refl _⟩
    rcases h3 with ⟨a1, a2, a3⟩ | ⟨b0, a1, a2, a3, a4, a5, a6, a7, a8⟩
    · refine Or.inl ⟨a1, fun q hq => (g2 q hq).trans (a2 q hq), fun b b1 b2 b3 => ?_⟩
      by_cases e : b = i
      · subst e; omega
      · exact a3 b b1 (by omega) b3
    · refine Or.inr ⟨b0, a1, by omega, a3, a4, a5, a6, fun b b1 b2 b3 => ?_, fun q hq => (g2 q hq).trans (a8 q hq)⟩
      by_cases e : b = i
      · subst e; omega
      · exact a7 b b1 (by omega) b3
theorem trI_end {met : Nat → Nat → Bool} {p ρ B Bi : Nat} {mt bs bi : Nat → Int32} (h12 : k ≤ 12) (hs : s < 2 ^ k) (hp : pcn s 12 = 2 * (p + 1)) (hp6 : p + 1 ≤ 6) (h : trI met k p s ρ B mt bs k Bi bi) : tryP met k (p + 1) s ρ B mt bs bi := by
  obtain ⟨h1, h2, h3⟩ := h
  obtain ⟨q1, q2, q3, q4, q5⟩ := prt_spec (met := met) h12 hs hp hp6
  obtain ⟨e1, e2, e3, e4, e5⟩ := ev_step h12 hs hp
  have hmin : ∀ b, mr_t s b = true → mr met k (p + 1) s ≤ mr_g met k p s b := fun b hb => mr_min h12 hs hp hb
  rcases h3 with ⟨a1, a2, a3⟩ | ⟨b0, a1, a2, a3, a4, a5, a6, a7, a8⟩
  · have z := a3 _ q3 q4 q1
    rw [q2] at z
    exact ⟨fun z2 => by omega, fun _ => ⟨by rw [h1, a1], a2⟩⟩
  · have hb0 : b0 = prt met k p s := by
      have m1 := hmin b0 a3
      rcases Nat.lt_trichotomy b0 (prt met k p s) with c | c | c
      · exfalso
        have z := a7 _ (by omega) q4 q1
        rw [q2] at z
        exact q5 b0 a1 c ⟨a3, by omega⟩
      · exact c
      · exfalso
        have z := a6 _ q3 c q1
        rw [q2] at z
        omega
    have hg : mr_g met k p s b0 = mr met k (p + 1) s := by rw [hb0]; exact q2
    rw [hg] at a4
    refine ⟨fun _ => ⟨by rw [h1, a4], fun q hq => ?_⟩, fun z2 => by omega⟩
    rw [a8 q hq, hb0]
    show _ = if s.testBit q = true then nI (if q = low s then prt met k p s else if q = prt met k p s then low s else prM met k p (clr (clr s (low s)) (prt met k p s)) q) else mt q
    by_cases c1 : q = low s
    · subst c1; rw [if_pos rfl, if_pos e2, if_pos rfl]
    · rw [if_neg c1]
      by_cases c2 : q = prt met k p s
      · have : s.testBit q = true := by
          have z := q1
          rw [← c2] at z
          have z2 : (clr s (low s)).testBit q = true := z
          rw [clr_t] at z2
          simp only [Bool.and_eq_true] at z2
          exact z2.1
        rw [if_pos c2, if_pos this, if_neg c1, if_pos c2]
      · have t1 : (clr (clr s (low s)) (prt met k p s)).testBit q = s.testBit q := by rw [clr_t, clr_t]; simp [c1, c2]
        rw [if_neg c2, t1]
        by_cases c3 : s.testBit q = true
        · rw [if_pos c3, if_pos c3, if_neg c1, if_neg c2]
        · rw [if_neg c3, if_neg c3]
theorem upd4 {mt : Nat → Int32} {a b : Nat} (ha : mt a = -1) (hb : mt b = -1) (hab : ¬ a = b) : upd (upd (upd (upd mt a (nI b)) b (nI a)) a (-1)) b (-1) = mt := by
  funext q
  by_cases e1 : q = b
  · subst e1; rw [pk_us, hb]
  · rw [pk_un e1]
    by_cases e2 : q = a
    · subst e2; rw [pk_us, ha]
    · rw [pk_un e2, pk_un e1, pk_un e2]
theorem try_0 (hst : l.stackTraces = false) {h : Nat} {S : sS} {u m : Nat} {rw_ : Nat → Int32} (hk12 : k ≤ 12) (hmk : m % 100 = m ∧ k = m - m % 2 ∧ m ≤ 12) : TryC G l h S u m k rw_ 0 := by
  intro A n v w s ρ B mt bs y hvw hvu hwu hS hu hv hw hs hp hmt hy hρ hB hB9
  have hs0 : s = 0 := pcn_zero (k := 12) (Nat.lt_of_lt_of_le hs (Nat.pow_le_pow_right (by decide) hk12)) hp
  subst hs0
  have ho := (hS A (fun _ _ _ => rfl)).1
  have ey : y.toInt = ρ := by rw [hy]; exact i_n (by omega)
  have eB : (nI B).toInt = B := i_n (by omega)
  have hz : ∀ q, ¬ (0 : Nat).testBit q = true := fun q => by simp
  have hmr : mr (metS S rw_) k 0 0 = 0 := rfl
  refine J_C hst (by decide +kernel) rfl rfl rfl (Nat.le_of_ble_eq_true rfl) ?_
  show xx_J _ _ _ _ _ _ _ _ 0 [(0, _), (1, _), (2, _), (3, _), (4, _)] [] _ _ _ _
  refine J_aload_n dX7_tryOut_0 rfl rfl ?_
  refine J_alen (v := nI m) dX7_tryOut_1 hu (by decide) rfl ?_
  refine J_aload_n dX7_tryOut_2 rfl rfl ?_
  refine J_alen (v := nI m) dX7_tryOut_3 hu (by decide) rfl ?_
  refine J_iconst (v := 2) dX7_tryOut_4 (by decide) ?_
  refine J_irem dX7_tryOut_5 (by decide) ?_
  rw [rem2s m (by omega)]
  refine J_isub dX7_tryOut_6 ?_
  rw [show nI m - nI (m % 2) = nI k from by rw [pk_sub (by omega)]; exact congrArg nI (by omega)]
  refine J_istore (L' := [(5, _), (0, _), (1, _), (2, _), (3, _), (4, _)]) dX7_tryOut_7 (by decide) rfl ?_
  refine J_iload dX7_tryOut_9 rfl ?_
  refine J_aload_n dX7_tryOut_11 rfl rfl ?_
  refine J_bipush (v := 12) dX7_tryOut_12 (by decide) ?_
  refine J_ialdN 12 dX7_tryOut_14 hw rfl (by decide) (by decide) ?_
  rw [hB]
  refine J_icmp_lt (tgt := 19) dX7_tryOut_15 rfl (fun h15 => ?_) (fun h15 => ?_)
  · refine J_iconst (v := 0) dX7_tryOut_19 (by decide) ?_
    refine J_istore (L' := [(6, _), (5, _), (0, _), (1, _), (2, _), (3, _), (4, _)]) dX7_tryOut_20 (by decide) rfl ?_
    have loop : ∀ i, i ≤ k → ∀ (x : Int32) , (x = nI i) → xx_J G l mX7_tryOut 1 60 0 0 (tryQ (metS S rw_) k 0 0 ρ B v w n mt bs A) 22 [(6, .int x), (5, .int (nI k)), (0, .ref h), (1, .ref u), (2, .ref v), (3, .ref w), (4, .int y)] [] A n 0 0 := by
      refine xx_dn ?_ ?_
      · intro x   hx
        have ex : x.toInt = k := by rw [hx]; exact i_n (by omega)
        have en : (nI k).toInt = k := i_n (by omega)
        refine J_iload dX7_tryOut_22 rfl ?_
        refine J_iload dX7_tryOut_24 rfl ?_
        refine J_icmp_ge (tgt := 42) dX7_tryOut_26 rfl (fun h26 => ?_) (fun h26 => ?_)
        · refine J_iload dX7_tryOut_42 rfl ?_
          refine J_iload dX7_tryOut_44 rfl ?_
          refine J_icmp_ne (tgt := 80) dX7_tryOut_46 rfl (fun h46 => ?_) (fun h46 => ?_)
          · first | (exfalso; simp only [i_lt, i_le, i_eq, i_0, i_1, i_2, i_3, i_4, i_5, i_6, i_8, i_9, i_10, i_12, i_16, i_20, i_m1] at h46; omega) | (exfalso; simp only [s_up, a_up, va_up, i_lt, i_le, i_eq, i_0, i_1, i_2, i_3, i_4, i_5, i_6, i_8, i_9, i_10, i_12, i_16, i_20, i_m1, ↓reduceIte, Nat.reduceEqDiff] at h46; omega)
          · refine J_iconst (v := 0) dX7_tryOut_49 (by decide) ?_
            refine J_istore (L' := [(7, _), (6, _), (5, _), (0, _), (1, _), (2, _), (3, _), (4, _)]) dX7_tryOut_50 (by decide) rfl ?_
            have loop : ∀ i, i ≤ k → ∀ (x : Int32) (A1 : xx_H) (b1 : Nat → Int32) , (x = nI i) → (A1 w = some (.inl (0, 13, .inl b1))) → (∀ z, z ≠ w → A1 z = A z) → (∀ q, q < i → b1 q = mt q) → xx_J G l mX7_tryOut 1 60 0 0 (tryQ (metS S rw_) k 0 0 ρ B v w n mt bs A) 52 [(7, .int x), (5, .int (nI k)), (0, .ref h), (1, .ref u), (2, .ref v), (3, .ref w), (4, .int y)] [] A1 n 0 0 := by
              refine xx_dn ?_ ?_
              · intro x  A1  b1   hx h1 h2 h3
                have ex : x.toInt = k := by rw [hx]; exact i_n (by omega)
                have en : (nI k).toInt = k := i_n (by omega)
                refine J_iload dX7_tryOut_52 rfl ?_
                refine J_iload dX7_tryOut_54 rfl ?_
                refine J_icmp_ge (tgt := 73) dX7_tryOut_56 rfl (fun h56 => ?_) (fun h56 => ?_)
                · refine J_aload_n dX7_tryOut_73 rfl rfl ?_
                  refine J_bipush (v := 12) dX7_tryOut_74 (by decide) ?_
                  refine J_iload dX7_tryOut_76 rfl ?_
                  refine J_iastQ 12 dX7_tryOut_78 h1 rfl (by decide) (by decide) (fun A2 g2 o2 => ?_)
                  refine J_return dX7_tryOut_79 rfl (by omega) (by omega) ?_
                  refine ⟨rfl, rfl, _, g2, (o2 v hvw).trans ((h2 v hvw).trans hv), fun z _ hz => (o2 z hz).trans (h2 z hz), ?_, ?_⟩
                  · intro _; exact ⟨by rw [pk_us, hmr, hy]; rfl, fun q hq => by rw [if_neg (hz q), pk_un (by omega)]; exact h3 q hq⟩
                  · intro z; exfalso; rw [hmr] at z; rw [i_lt, ey, eB] at h15; omega
                · first | (exfalso; simp only [i_lt, i_le, i_eq, i_0, i_1, i_2, i_3, i_4, i_5, i_6, i_8, i_9, i_10, i_12, i_16, i_20, i_m1] at h56; omega) | (exfalso; simp only [s_up, a_up, va_up, i_lt, i_le, i_eq, i_0, i_1, i_2, i_3, i_4, i_5, i_6, i_8, i_9, i_10, i_12, i_16, i_20, i_m1, ↓reduceIte, Nat.reduceEqDiff] at h56; omega)
              · intro i hii ih x  A1  b1   hx h1 h2 h3
                have ex : x.toInt = i := by rw [hx]; exact i_n (by omega)
                have en : (nI k).toInt = k := i_n (by omega)
                have hv1 := (h2 v hvw).trans hv
                refine J_iload dX7_tryOut_52 rfl ?_
                refine J_iload dX7_tryOut_54 rfl ?_
                refine J_icmp_ge (tgt := 73) dX7_tryOut_56 rfl (fun h56 => ?_) (fun h56 => ?_)
                · first | (exfalso; simp only [i_lt, i_le, i_eq, i_0, i_1, i_2, i_3, i_4, i_5, i_6, i_8, i_9, i_10, i_12, i_16, i_20, i_m1] at h56; omega) | (exfalso; simp only [s_up, a_up, va_up, i_lt, i_le, i_eq, i_0, i_1, i_2, i_3, i_4, i_5, i_6, i_8, i_9, i_10, i_12, i_16, i_20, i_m1, ↓reduceIte, Nat.reduceEqDiff] at h56; omega)
                · refine J_aload_n dX7_tryOut_59 rfl rfl ?_
                  refine J_iload dX7_tryOut_60 rfl ?_
                  refine J_aload_n dX7_tryOut_62 rfl rfl ?_
                  refine J_iload dX7_tryOut_63 rfl ?_
                  refine J_ialdN i dX7_tryOut_65 hv1 hx (by omega) (by omega) ?_
                  refine J_iastQ i dX7_tryOut_66 h1 hx (by omega) (by omega) (fun A2 g2 o2 => ?_)
                  refine J_iinc (v := _ + 1) (L' := [(7, _), (5, _), (0, _), (1, _), (2, _), (3, _), (4, _)]) dX7_tryOut_67 rfl rfl (by decide) rfl ?_
                  refine J_goto (tgt := 52) dX7_tryOut_70 rfl ?_
                  refine xx_J.pick [0, 1, 2, 3, 4, 5, 6] rfl ?_
                  exact ih _ _ _  (by rw [hx]; exact nI_1 i) g2 (fun z hz => (o2 z hz).trans (h2 z hz)) (upd_pre h3)
            refine xx_J.pick [0, 2, 3, 4, 5, 6, 7] rfl ?_
            exact loop 0 (by omega) _ _ _  rfl hw (fun _ _ => rfl) (fun q hq => absurd hq (Nat.not_lt_zero q))
        · first | (exfalso; simp only [i_lt, i_le, i_eq, i_0, i_1, i_2, i_3, i_4, i_5, i_6, i_8, i_9, i_10, i_12, i_16, i_20, i_m1] at h26; omega) | (exfalso; simp only [s_up, a_up, va_up, i_lt, i_le, i_eq, i_0, i_1, i_2, i_3, i_4, i_5, i_6, i_8, i_9, i_10, i_12, i_16, i_20, i_m1, ↓reduceIte, Nat.reduceEqDiff] at h26; omega)
      · intro i hii ih x   hx
        have ex : x.toInt = i := by rw [hx]; exact i_n (by omega)
        have en : (nI k).toInt = k := i_n (by omega)
        obtain ⟨z0, hz1, hz2⟩ := (hmt i hii).2 (hz i)
        refine J_iload dX7_tryOut_22 rfl ?_
        refine J_iload dX7_tryOut_24 rfl ?_
        refine J_icmp_ge (tgt := 42) dX7_tryOut_26 rfl (fun h26 => ?_) (fun h26 => ?_)
        · first | (exfalso; simp only [i_lt, i_le, i_eq, i_0, i_1, i_2, i_3, i_4, i_5, i_6, i_8, i_9, i_10, i_12, i_16, i_20, i_m1] at h26; omega) | (exfalso; simp only [s_up, a_up, va_up, i_lt, i_le, i_eq, i_0, i_1, i_2, i_3, i_4, i_5, i_6, i_8, i_9, i_10, i_12, i_16, i_20, i_m1, ↓reduceIte, Nat.reduceEqDiff] at h26; omega)
        · refine J_aload_n dX7_tryOut_29 rfl rfl ?_
          refine J_iload dX7_tryOut_30 rfl ?_
          refine J_ialdN i dX7_tryOut_32 hv hx (by omega) (by omega) ?_
          rw [hz1]
          refine J_if_lt (tgt := 42) dX7_tryOut_33 rfl (fun z => absurd z (nI_pos (by omega))) (fun _ => ?_)
          refine J_iinc (v := _ + 1) (L' := [(6, _), (5, _), (0, _), (1, _), (2, _), (3, _), (4, _)]) dX7_tryOut_36 rfl rfl (by decide) rfl ?_
          refine J_goto (tgt := 22) dX7_tryOut_39 rfl ?_
          refine xx_J.pick [0, 1, 2, 3, 4, 5, 6] rfl ?_
          exact ih _  (by rw [hx]; exact nI_1 i)
    refine xx_J.pick [0, 1, 2, 3, 4, 5, 6] rfl ?_
    exact loop 0 (by omega) _  rfl
  · refine J_return dX7_tryOut_18 rfl (by omega) (by omega) ?_
    refine ⟨rfl, rfl, bs, hw, hv, fun _ _ _ => rfl, ?_, ?_⟩
    · intro z; exfalso; rw [hmr] at z; rw [i_lt, ey, eB] at h15; omega
    · intro _; exact ⟨hB, fun _ _ => rfl⟩
theorem mt_st {mt : Nat → Int32} (h : mtOK k s mt) (h1 : low s < k) (h2 : i < k) (h12 : k ≤ 12) : mtOK k (clr (clr s (low s)) i) (upd (upd mt (low s) (nI i)) i (nI (low s))) := fun q hq => by
  rw [clr_t, clr_t]
  by_cases e1 : q = i
  · subst e1
    exact ⟨fun z => by simp at z, fun _ => ⟨low s, pk_us, by omega⟩⟩
  · by_cases e2 : q = low s
    · subst e2
      exact ⟨fun z => by simp at z, fun _ => ⟨i, by rw [pk_un e1, pk_us], by omega⟩⟩
    · rw [pk_un e1, pk_un e2]
      have z := h q hq
      simp only [e1, e2, decide_false, Bool.not_false, Bool.and_true]
      exact z
set_option maxRecDepth 100000 in
set_option maxHeartbeats 4000000 in
theorem try_s (hst : l.stackTraces = false) {h : Nat} {S : sS} {u m : Nat} {rw_ : Nat → Int32} (hk12 : k ≤ 12) (hmk : m % 100 = m ∧ k = m - m % 2 ∧ m ≤ 12) (hnb : S.2.2 1 < 1000) (hnr : S.2.2 3 < 1000) {P : Nat} (hP6 : P + 1 ≤ 6) (IH : TryC G l h S u m k rw_ P) : TryC G l h S u m k rw_ (P + 1) := by
  intro A n v w s ρ B mt bs y hvw hvu hwu hS hu hv hw hs hp hmt hy hρ hB hB9
  obtain ⟨f1, f2, f3, f4, f5⟩ := ev_step hk12 hs hp
  have ho := (hS A (fun _ _ _ => rfl)).1
  have ey : y.toInt = ρ := by rw [hy]; exact i_n (by omega)
  have eB : (nI B).toInt = B := i_n (by omega)
  have en : (nI k).toInt = k := i_n (by omega)
  have hlow := (low_spec hs hk12 f1).2.2
  refine J_C hst (by decide +kernel) rfl rfl rfl (Nat.le_of_ble_eq_true rfl) ?_
  show xx_J _ _ _ _ _ _ _ _ 0 [(0, _), (1, _), (2, _), (3, _), (4, _)] [] _ _ _ _
  refine J_aload_n dX7_tryOut_0 rfl rfl ?_
  refine J_alen (v := nI m) dX7_tryOut_1 hu (by decide) rfl ?_
  refine J_aload_n dX7_tryOut_2 rfl rfl ?_
  refine J_alen (v := nI m) dX7_tryOut_3 hu (by decide) rfl ?_
  refine J_iconst (v := 2) dX7_tryOut_4 (by decide) ?_
  refine J_irem dX7_tryOut_5 (by decide) ?_
  rw [rem2s m (by omega)]
  refine J_isub dX7_tryOut_6 ?_
  rw [show nI m - nI (m % 2) = nI k from by rw [pk_sub (by omega)]; exact congrArg nI (by omega)]
  refine J_istore (L' := [(5, _), (0, _), (1, _), (2, _), (3, _), (4, _)]) dX7_tryOut_7 (by decide) rfl ?_
  refine J_iload dX7_tryOut_9 rfl ?_
  refine J_aload_n dX7_tryOut_11 rfl rfl ?_
  refine J_bipush (v := 12) dX7_tryOut_12 (by decide) ?_
  refine J_ialdN 12 dX7_tryOut_14 hw rfl (by decide) (by decide) ?_
  rw [hB]
  refine J_icmp_lt (tgt := 19) dX7_tryOut_15 rfl (fun h15 => ?_) (fun h15 => ?_)
  · refine J_iconst (v := 0) dX7_tryOut_19 (by decide) ?_
    refine J_istore (L' := [(6, _), (5, _), (0, _), (1, _), (2, _), (3, _), (4, _)]) dX7_tryOut_20 (by decide) rfl ?_
    have srch : ∀ i, i ≤ low s → ∀ x : Int32, x = nI i → xx_J G l mX7_tryOut (P + 1 + 1) (60 + 40 * (P + 1)) 0 0 (tryQ (metS S rw_) k (P + 1) s ρ B v w n mt bs A) 22 [(6, .int x), (5, .int (nI k)), (0, .ref h), (1, .ref u), (2, .ref v), (3, .ref w), (4, .int y)] [] A n 0 0 := by
      refine xx_dn ?_ ?_
      · intro x hx
        have ex : x.toInt = low s := by rw [hx]; exact i_n (by omega)
        refine J_iload dX7_tryOut_22 rfl ?_
        refine J_iload dX7_tryOut_24 rfl ?_
        refine J_icmp_ge (tgt := 42) dX7_tryOut_26 rfl (fun h26 => ?_) (fun h26 => ?_)
        · first | (exfalso; simp only [i_lt, i_le, i_eq, i_0, i_1, i_2, i_3, i_4, i_5, i_6, i_8, i_9, i_10, i_12, i_16, i_20, i_m1] at h26; omega) | (exfalso; simp only [s_up, a_up, va_up, i_lt, i_le, i_eq, i_0, i_1, i_2, i_3, i_4, i_5, i_6, i_8, i_9, i_10, i_12, i_16, i_20, i_m1, ↓reduceIte, Nat.reduceEqDiff] at h26; omega)
        · refine J_aload_n dX7_tryOut_29 rfl rfl ?_
          refine J_iload dX7_tryOut_30 rfl ?_
          refine J_ialdN (low s) dX7_tryOut_32 hv hx (by omega) (by omega) ?_
          rw [(hmt _ f3).1 f2]
          refine J_if_lt (tgt := 42) dX7_tryOut_33 rfl (fun _ => ?_) (fun z => absurd (by decide) z)
          have outer : ∀ i, i ≤ k → ∀ (z : Int32) (A1 : xx_H) (Bi : Nat) (bi : Nat → Int32), z = nI i → low s < i → A1 v = some (.inl (0, 12, .inl mt)) → A1 w = some (.inl (0, 13, .inl bi)) → (∀ z, z ≠ v → z ≠ w → A1 z = A z) → trI (metS S rw_) k P s ρ B mt bs i Bi bi → xx_J G l mX7_tryOut (P + 1 + 1) (60 + 40 * (P + 1)) 0 0 (tryQ (metS S rw_) k (P + 1) s ρ B v w n mt bs A) 86 [(7, .int z), (6, .int x), (5, .int (nI k)), (0, .ref h), (1, .ref u), (2, .ref v), (3, .ref w), (4, .int y)] [] A1 n 0 0 := by
            refine xx_dn ?_ ?_
            · intro z A1 Bi bi hz hli c1 c2 c3 c4
              have ez : z.toInt = k := by rw [hz]; exact i_n (by omega)
              refine J_iload dX7_tryOut_86 rfl ?_
              refine J_iload dX7_tryOut_88 rfl ?_
              refine J_icmp_ge (tgt := 163) dX7_tryOut_90 rfl (fun h90 => ?_) (fun h90 => ?_)
              · refine J_return dX7_tryOut_163 rfl (by omega) (by omega) ?_
                exact ⟨rfl, rfl, bi, c2, c1, c3, trI_end hk12 hs hp hP6 c4⟩
              · first | (exfalso; simp only [i_lt, i_le, i_eq, i_0, i_1, i_2, i_3, i_4, i_5, i_6, i_8, i_9, i_10, i_12, i_16, i_20, i_m1] at h90; omega) | (exfalso; simp only [s_up, a_up, va_up, i_lt, i_le, i_eq, i_0, i_1, i_2, i_3, i_4, i_5, i_6, i_8, i_9, i_10, i_12, i_16, i_20, i_m1, ↓reduceIte, Nat.reduceEqDiff] at h90; omega)
            · intro i hii ih z A1 Bi bi hz hli c1 c2 c3 c4
              have ez : z.toInt = i := by rw [hz]; exact i_n (by omega)
              have hv := c1
              have hw := c2
              have hu1 : A1 u = some (.inl (0, m, .inl rw_)) := (c3 u (Ne.symm hvu) (Ne.symm hwu)).trans hu
              have htb : mr_t s i = s.testBit i := by show (clr s (low s)).testBit i = _; rw [clr_t]; simp [Nat.ne_of_gt hli]
              have hmi := hmt i hii
              have hml := (hmt _ f3).1 f2
              by_cases hti : s.testBit i = true
              · refine J_iload dX7_tryOut_86 rfl ?_
                refine J_iload dX7_tryOut_88 rfl ?_
                refine J_icmp_ge (tgt := 163) dX7_tryOut_90 rfl (fun h90 => ?_) (fun h90 => ?_)
                · first | (exfalso; simp only [i_lt, i_le, i_eq, i_0, i_1, i_2, i_3, i_4, i_5, i_6, i_8, i_9, i_10, i_12, i_16, i_20, i_m1] at h90; omega) | (exfalso; simp only [s_up, a_up, va_up, i_lt, i_le, i_eq, i_0, i_1, i_2, i_3, i_4, i_5, i_6, i_8, i_9, i_10, i_12, i_16, i_20, i_m1, ↓reduceIte, Nat.reduceEqDiff] at h90; omega)
                · refine J_aload_n dX7_tryOut_93 rfl rfl ?_
                  refine J_iload dX7_tryOut_94 rfl ?_
                  refine J_ialdN i dX7_tryOut_96 hv hz (by omega) (by omega) ?_
                  rw [hmi.1 hti]
                  refine J_if_lt (tgt := 103) dX7_tryOut_97 rfl (fun _ => ?_) (fun z => absurd (by decide) z)
                  refine J_aload_n dX7_tryOut_103 rfl rfl ?_
                  refine J_iload dX7_tryOut_104 rfl ?_
                  refine J_iload dX7_tryOut_106 rfl ?_
                  rw [hz]
                  refine J_iastQ (low s) dX7_tryOut_108 hv hx (by omega) (by omega) (fun A4 g4 o4 => ?_)
                  refine J_aload_n dX7_tryOut_109 rfl rfl ?_
                  refine J_iload dX7_tryOut_110 rfl ?_
                  refine J_iload dX7_tryOut_112 rfl ?_
                  rw [hx]
                  refine J_iastQ i dX7_tryOut_114 g4 rfl (by omega) (by omega) (fun A5 g5 o5 => ?_)
                  have hA5 : ∀ z, z ≠ v → z ≠ w → A5 z = A z := fun z h1 h2 => (o5 z h1).trans ((o4 z h1).trans (c3 z h1 h2))
                  have hS5 := hS A5 hA5
                  have ho := hS5.1
                  have hu5 : A5 u = some (.inl (0, m, .inl rw_)) := (hA5 u (Ne.symm hvu) (Ne.symm hwu)).trans hu
                  have hw5 : A5 w = some (.inl (0, 13, .inl bi)) := (o5 w (Ne.symm hvw)).trans ((o4 w (Ne.symm hvw)).trans hw)
                  have hev := f5 i (htb.trans hti)
                  have hmt5 : mtOK k (clr (clr s (low s)) i) (upd (upd mt (low s) (nI i)) i (nI (low s))) := mt_st hmt f3 hii hk12
                  refine J_aload_n dX7_tryOut_115 rfl rfl ?_
                  refine J_aload_n dX7_tryOut_116 rfl rfl ?_
                  refine J_aload_n dX7_tryOut_117 rfl rfl ?_
                  refine J_aload_n dX7_tryOut_118 rfl rfl ?_
                  refine J_iload dX7_tryOut_119 rfl ?_
                  refine J_aload_n dX7_tryOut_121 rfl rfl ?_
                  refine J_aload_n dX7_tryOut_122 rfl rfl ?_
                  refine J_iload dX7_tryOut_123 rfl ?_
                  refine J_ialdN (low s) dX7_tryOut_125 hu5 rfl (by omega) (by omega) ?_
                  refine J_aload_n dX7_tryOut_126 rfl rfl ?_
                  refine J_iload dX7_tryOut_127 rfl ?_
                  refine J_ialdN i dX7_tryOut_129 hu5 rfl (by omega) (by omega) ?_
                  refine J_bipush (v := 99) dX7_tryOut_130 (by decide) ?_
                  refine J_callVr (As := [_, _, _]) dX7_tryOut_132 ml_X7_83 cal_X7_met im_X7_met se_X7_met ho rfl rfl rfl (Nat.le_of_ble_eq_true rfl) ⟨by omega, by show 8 + (9 + 11) + 0 ≤ _; omega⟩ ⟨by omega, by omega⟩ (c_X7_met hst hS5 hnb hnr _ _ _) ?_
                  refine J_if_le (tgt := 142) dX7_tryOut_135 rfl (fun h135 => ?_) (fun h135 => ?_)
                  · refine J_iconst (v := 0) dX7_tryOut_142 (by decide) ?_
                    refine J_iadd dX7_tryOut_143 ?_
                    have hmb : metS S rw_ (low s) i = false := decide_eq_false (Int32.not_lt.mpr h135)
                    refine J_callVw (As := [_, _, _, _]) dX7_tryOut_144 ml_X7_87 cal_X7_tryOut im_X7_tryOut se_X7_tryOut ho rfl rfl rfl (Nat.le_of_ble_eq_true rfl) ⟨by omega, by show 8 + (8 + 11) + _ ≤ _; omega⟩ ⟨by omega, by omega⟩ (IH A5 n v w (clr (clr s (low s)) i) (ρ + if metS S rw_ (low s) i = true then 1 else 0) Bi _ bi _ hvw hvu hwu (fun A' hA' => hS A' (fun z h1 h2 => (hA' z h1 h2).trans (hA5 z h1 h2))) hu5 g5 hw5 hev.2.2.1 hev.2.2.2.2 hmt5 (by rw [hmb, hy]; rw [if_neg (by decide)]; exact nI_add ρ 0) (by split <;> omega) c4.1 (Nat.le_trans c4.2.1 hB9)) (fun A6 hQ6 => ?_)
                    obtain ⟨b6, d1, d2, d3, d4⟩ := hQ6
                    obtain ⟨Bi9, t1, t2⟩ := trI_try c4 hli hii (htb.trans hti) (by rw [pk_un (by omega), pk_us]) pk_us (fun q h1 h2 => by rw [pk_un h2, pk_un h1]) d4
                    refine J_aload_n dX7_tryOut_147 rfl rfl ?_
                    refine J_iload dX7_tryOut_148 rfl ?_
                    refine J_iconst (v := -1) dX7_tryOut_150 (by decide) ?_
                    refine J_iastQ (low s) dX7_tryOut_151 d2 rfl (by omega) (by omega) (fun A7 g7 o7 => ?_)
                    refine J_aload_n dX7_tryOut_152 rfl rfl ?_
                    refine J_iload dX7_tryOut_153 rfl ?_
                    refine J_iconst (v := -1) dX7_tryOut_155 (by decide) ?_
                    refine J_iastQ i dX7_tryOut_156 g7 rfl (by omega) (by omega) (fun A8 g8 o8 => ?_)
                    rw [upd4 hml (hmi.1 hti) (by omega)] at g8
                    refine J_iinc (v := _ + 1) (L' := [(7, _), (6, _), (5, _), (0, _), (1, _), (2, _), (3, _), (4, _)]) dX7_tryOut_157 rfl rfl (by decide) rfl ?_
                    refine J_goto (tgt := 86) dX7_tryOut_160 rfl ?_
                    refine xx_J.pick [0, 1, 2, 3, 4, 5, 6, 7] rfl ?_
                    rw [← hx]
                    exact ih _ A8 Bi9 b6 (nI_1 i) (by omega) g8 ((o8 w (Ne.symm hvw)).trans ((o7 w (Ne.symm hvw)).trans d1)) (fun z h1 h2 => (o8 z h1).trans ((o7 z h1).trans ((d3 z h1 h2).trans (hA5 z h1 h2)))) t1
                  · refine J_iconst (v := 1) dX7_tryOut_138 (by decide) ?_
                    refine J_goto (tgt := 143) dX7_tryOut_139 rfl ?_
                    refine J_iadd dX7_tryOut_143 ?_
                    have hmb : metS S rw_ (low s) i = true := decide_eq_true (Int32.not_le.mp h135)
                    refine J_callVw (As := [_, _, _, _]) dX7_tryOut_144 ml_X7_87 cal_X7_tryOut im_X7_tryOut se_X7_tryOut ho rfl rfl rfl (Nat.le_of_ble_eq_true rfl) ⟨by omega, by show 8 + (8 + 11) + _ ≤ _; omega⟩ ⟨by omega, by omega⟩ (IH A5 n v w (clr (clr s (low s)) i) (ρ + if metS S rw_ (low s) i = true then 1 else 0) Bi _ bi _ hvw hvu hwu (fun A' hA' => hS A' (fun z h1 h2 => (hA' z h1 h2).trans (hA5 z h1 h2))) hu5 g5 hw5 hev.2.2.1 hev.2.2.2.2 hmt5 (by rw [hmb, hy]; rw [if_pos rfl]; exact nI_1 ρ) (by split <;> omega) c4.1 (Nat.le_trans c4.2.1 hB9)) (fun A6 hQ6 => ?_)
                    obtain ⟨b6, d1, d2, d3, d4⟩ := hQ6
                    obtain ⟨Bi9, t1, t2⟩ := trI_try c4 hli hii (htb.trans hti) (by rw [pk_un (by omega), pk_us]) pk_us (fun q h1 h2 => by rw [pk_un h2, pk_un h1]) d4
                    refine J_aload_n dX7_tryOut_147 rfl rfl ?_
                    refine J_iload dX7_tryOut_148 rfl ?_
                    refine J_iconst (v := -1) dX7_tryOut_150 (by decide) ?_
                    refine J_iastQ (low s) dX7_tryOut_151 d2 rfl (by omega) (by omega) (fun A7 g7 o7 => ?_)
                    refine J_aload_n dX7_tryOut_152 rfl rfl ?_
                    refine J_iload dX7_tryOut_153 rfl ?_
                    refine J_iconst (v := -1) dX7_tryOut_155 (by decide) ?_
                    refine J_iastQ i dX7_tryOut_156 g7 rfl (by omega) (by omega) (fun A8 g8 o8 => ?_)
                    rw [upd4 hml (hmi.1 hti) (by omega)] at g8
                    refine J_iinc (v := _ + 1) (L' := [(7, _), (6, _), (5, _), (0, _), (1, _), (2, _), (3, _), (4, _)]) dX7_tryOut_157 rfl rfl (by decide) rfl ?_
                    refine J_goto (tgt := 86) dX7_tryOut_160 rfl ?_
                    refine xx_J.pick [0, 1, 2, 3, 4, 5, 6, 7] rfl ?_
                    rw [← hx]
                    exact ih _ A8 Bi9 b6 (nI_1 i) (by omega) g8 ((o8 w (Ne.symm hvw)).trans ((o7 w (Ne.symm hvw)).trans d1)) (fun z h1 h2 => (o8 z h1).trans ((o7 z h1).trans ((d3 z h1 h2).trans (hA5 z h1 h2)))) t1
              · refine J_iload dX7_tryOut_86 rfl ?_
                refine J_iload dX7_tryOut_88 rfl ?_
                refine J_icmp_ge (tgt := 163) dX7_tryOut_90 rfl (fun h90 => ?_) (fun h90 => ?_)
                · first | (exfalso; simp only [i_lt, i_le, i_eq, i_0, i_1, i_2, i_3, i_4, i_5, i_6, i_8, i_9, i_10, i_12, i_16, i_20, i_m1] at h90; omega) | (exfalso; simp only [s_up, a_up, va_up, i_lt, i_le, i_eq, i_0, i_1, i_2, i_3, i_4, i_5, i_6, i_8, i_9, i_10, i_12, i_16, i_20, i_m1, ↓reduceIte, Nat.reduceEqDiff] at h90; omega)
                · refine J_aload_n dX7_tryOut_93 rfl rfl ?_
                  refine J_iload dX7_tryOut_94 rfl ?_
                  obtain ⟨z0, hz1, hz2⟩ := hmi.2 hti
                  refine J_ialdN i dX7_tryOut_96 hv hz (by omega) (by omega) ?_
                  rw [hz1]
                  refine J_if_lt (tgt := 103) dX7_tryOut_97 rfl (fun z => absurd z (nI_pos (by omega))) (fun _ => ?_)
                  refine J_goto (tgt := 157) dX7_tryOut_100 rfl ?_
                  refine J_iinc (v := _ + 1) (L' := [(7, _), (6, _), (5, _), (0, _), (1, _), (2, _), (3, _), (4, _)]) dX7_tryOut_157 rfl rfl (by decide) rfl ?_
                  refine J_goto (tgt := 86) dX7_tryOut_160 rfl ?_
                  refine xx_J.pick [0, 1, 2, 3, 4, 5, 6, 7] rfl ?_
                  exact ih _ A1 Bi bi (by rw [hz]; exact nI_1 i) (by omega) c1 c2 c3 (trI_skip c4 (by rw [htb]; exact hti))
          refine J_iload dX7_tryOut_42 rfl ?_
          refine J_iload dX7_tryOut_44 rfl ?_
          refine J_icmp_ne (tgt := 80) dX7_tryOut_46 rfl (fun _ => ?_) (fun z => absurd (by rw [← ex, z]; exact en) (fun z2 : ((low s : Nat) : Int) = k => by omega))
          refine J_iload dX7_tryOut_80 rfl ?_
          refine J_iconst (v := 1) dX7_tryOut_82 (by decide) ?_
          refine J_iadd dX7_tryOut_83 ?_
          refine J_istore (L' := [(7, _), (6, _), (5, _), (0, _), (1, _), (2, _), (3, _), (4, _)]) dX7_tryOut_84 (by decide) rfl ?_
          refine xx_J.pick [0, 1, 2, 3, 4, 5, 6, 7] rfl ?_
          exact outer (low s + 1) (by omega) _ A B bs (by rw [hx]; exact nI_1 _) (Nat.lt_succ_self _) hv hw (fun _ _ _ => rfl) ⟨hB, Nat.le_refl _, Or.inl ⟨rfl, fun _ _ => rfl, fun b b1 b2 _ => by omega⟩⟩
      · intro i hii ih x hx
        have ex : x.toInt = i := by rw [hx]; exact i_n (by omega)
        obtain ⟨z0, hz1, hz2⟩ := (hmt i (by omega)).2 (by rw [hlow i hii]; decide)
        refine J_iload dX7_tryOut_22 rfl ?_
        refine J_iload dX7_tryOut_24 rfl ?_
        refine J_icmp_ge (tgt := 42) dX7_tryOut_26 rfl (fun h26 => ?_) (fun h26 => ?_)
        · first | (exfalso; simp only [i_lt, i_le, i_eq, i_0, i_1, i_2, i_3, i_4, i_5, i_6, i_8, i_9, i_10, i_12, i_16, i_20, i_m1] at h26; omega) | (exfalso; simp only [s_up, a_up, va_up, i_lt, i_le, i_eq, i_0, i_1, i_2, i_3, i_4, i_5, i_6, i_8, i_9, i_10, i_12, i_16, i_20, i_m1, ↓reduceIte, Nat.reduceEqDiff] at h26; omega)
        · refine J_aload_n dX7_tryOut_29 rfl rfl ?_
          refine J_iload dX7_tryOut_30 rfl ?_
          refine J_ialdN i dX7_tryOut_32 hv hx (by omega) (by omega) ?_
          rw [hz1]
          refine J_if_lt (tgt := 42) dX7_tryOut_33 rfl (fun z => absurd z (nI_pos (by omega))) (fun _ => ?_)
          refine J_iinc (v := _ + 1) (L' := [(6, _), (5, _), (0, _), (1, _), (2, _), (3, _), (4, _)]) dX7_tryOut_36 rfl rfl (by decide) rfl ?_
          refine J_goto (tgt := 22) dX7_tryOut_39 rfl ?_
          refine xx_J.pick [0, 1, 2, 3, 4, 5, 6] rfl ?_
          exact ih _ (by rw [hx]; exact nI_1 i)
    refine xx_J.pick [0, 1, 2, 3, 4, 5, 6] rfl ?_
    exact srch 0 (Nat.zero_le _) _ rfl
  · refine J_return dX7_tryOut_18 rfl (by omega) (by omega) ?_
    refine ⟨rfl, rfl, bs, hw, hv, fun _ _ _ => rfl, ?_, ?_⟩
    · intro z; exfalso; rw [i_lt, ey, eB] at h15; omega
    · intro _; exact ⟨hB, fun _ _ => rfl⟩
theorem try_all (hst : l.stackTraces = false) {h : Nat} {S : sS} {u m : Nat} {rw_ : Nat → Int32} (hk12 : k ≤ 12) (hmk : m % 100 = m ∧ k = m - m % 2 ∧ m ≤ 12) (hnb : S.2.2 1 < 1000) (hnr : S.2.2 3 < 1000) : ∀ P, P ≤ 6 → TryC G l h S u m k rw_ P := by
  intro P
  induction P with
  | zero => intro _; exact try_0 hst hk12 hmk
  | succ P ih => intro h; exact try_s hst hk12 hmk hnb hnr h (ih (by omega))
end XST
