/-! THE TIE: whole; an outcome is told, a wrestler turned -/
section XTA
variable {n : Nat} {k j i q s e t d p : Nat} {S S' : sS} {F : xS} {nw nb r : Nat}
/-- the bouts and the rests of w -/
def bwN (S : sS) (w : Nat) : Nat := cnN (fun i => bt S i 1 = nI w ∨ bt S i 2 = nI w) (S.2.2 1)
def rsN (S : sS) (w : Nat) : Nat := cnN (fun i => S.2.1 8 i = nI w) (S.2.2 3)
/-- the bouts: those ahead of the latest round are told -/
def tiB (S : sS) (F : xS) (nw nb r : Nat) : Prop := nb ≤ S.2.2 1 ∧ S.2.2 1 ≤ 3 * r ∧ (∀ i, i < S.2.2 1 → ∃ u a c, btR S nw i u a c ∧ u < r ∧ (i + nb < S.2.2 1 → u + 1 < r ∧ ¬ bt S i 3 = -1) ∧ (S.2.2 1 ≤ i + nb → u + 1 = r)) ∧ ∀ q, q < nb → F.2 4 q = bt S (S.2.2 1 - nb + q) 1 ∧ F.2 5 q = bt S (S.2.2 1 - nb + q) 2 ∧ F.2 6 q = bt S (S.2.2 1 - nb + q) 3
/-- in the latest round each one is in one bout -/
def tiL (S : sS) (F : xS) (nw nb r : Nat) : Prop := (∀ q z, q < nb → z < nb → ¬ q = z → ¬ F.2 4 q = F.2 4 z ∧ ¬ F.2 4 q = F.2 5 z ∧ ¬ F.2 5 q = F.2 5 z) ∧ ((r = 0 ∧ F.1 9 = -1) ∨ (0 < r ∧ F.1 9 = S.2.1 8 (r - 1))) ∧ ∀ i, i < r → S.2.1 8 i = -1 ∨ ∃ w, w < nw ∧ S.2.1 8 i = nI w
/-- the tournament by hand is that of the Field -/
def tiS (S : sS) (F : xS) (nw nb r : Nat) : Prop := (S.1 0 = nI nw ∧ S.1 5 = nI r ∧ S.2.2 3 = r ∧ 2 ≤ nw ∧ nw ≤ 6) ∧ okF F nw nb r ∧ tiC S F nw ∧ tiB S F nw nb r ∧ (∀ w, w < nw → bwN S w + rsN S w ≤ r) ∧ tiL S F nw nb r
theorem tiS.bA (h : tiS S F nw nb r) : btA S nw := fun i hi => by
  obtain ⟨h1, h2, h3, h4, -⟩ := h
  obtain ⟨u, a, c, hb, hu, -⟩ := h4.2.2.1 i hi
  have := h2.2.2.1.2
  exact ⟨u, a, c, hb, by omega⟩
/-- what telling does to wins, draws, losses -/
theorem tell_cnt {q i j w : Nat} {v : Int32} (hi : i < 12) (hj : j < 12) (hw : w < 12) (hij : ¬ i = j) (hv : v = 0 ∨ v = 1 ∨ v = 2) : (tellF F q i j v).2 2 (2 * 12 + w) = F.2 2 (2 * 12 + w) + (if (i = w ∧ v = 0) ∨ (j = w ∧ v = 2) then 1 else 0) ∧ (tellF F q i j v).2 2 (3 * 12 + w) = F.2 2 (3 * 12 + w) + (if (i = w ∧ v = 1) ∨ (j = w ∧ v = 1) then 1 else 0) ∧ (tellF F q i j v).2 2 (4 * 12 + w) = F.2 2 (4 * 12 + w) + (if (i = w ∧ v = 2) ∨ (j = w ∧ v = 0) then 1 else 0) := by
  have z : ∀ x : Int32, x + 0 = x := fun x => by grind
  have hW : ∀ (X : xS) (a b : Nat), a < 12 → b < 12 → ¬ a = b → X.2 2 = F.2 2 → (winF X a b).2 2 (2 * 12 + w) = F.2 2 (2 * 12 + w) + (if a = w then 1 else 0) ∧ (winF X a b).2 2 (3 * 12 + w) = F.2 2 (3 * 12 + w) ∧ (winF X a b).2 2 (4 * 12 + w) = F.2 2 (4 * 12 + w) + (if b = w then 1 else 0) := by
    intro X a b ha hb hab hX
    unfold winF
    rw [at_add hb hw, at_add ha hw, at_add ha hw, at_add hb hw, at_add ha hw, at_add ha hw, at_add hb hw, at_add ha hb, at_add ha hb, at_add ha hw, at_add ha hw]
    by_cases c1 : a = w
    · subst c1
      have : ¬ a = b := hab
      simp [this, hX, z]
      intro h; exact absurd h.symm this
    · by_cases c2 : b = w
      · subst c2
        have : ¬ b = a := fun h => hab h.symm
        simp [c1, this, hX, z]
      · have h1 : ¬ w = a := fun h => c1 h.symm
        have h2 : ¬ w = b := fun h => c2 h.symm
        simp [c1, c2, h1, h2, hX, z]
  have hD : ∀ (X : xS) (a : Nat), a < 12 → (drawF X a).2 2 (2 * 12 + w) = X.2 2 (2 * 12 + w) ∧ (drawF X a).2 2 (3 * 12 + w) = X.2 2 (3 * 12 + w) + (if a = w then 1 else 0) ∧ (drawF X a).2 2 (4 * 12 + w) = X.2 2 (4 * 12 + w) := by
    intro X a ha
    unfold drawF
    rw [at_add ha hw, at_add ha hw, at_add ha hw, at_add ha hw, at_add ha hw, at_add ha hw]
    by_cases c1 : a = w
    · subst c1; simp
    · have h1 : ¬ w = a := fun h => c1 h.symm
      simp [c1, h1]
  have e7 : (a_up F 6 (upd (F.2 6) q v)).2 2 = F.2 2 := by simp [va_up]
  unfold tellF
  rcases hv with rfl | rfl | rfl
  · rw [if_neg (by decide), if_pos rfl]
    obtain ⟨g1, g2, g3⟩ := hW _ i j hi hj hij e7
    rw [g1, g2, g3]
    refine ⟨?_, ?_, ?_⟩
    · congr 1; by_cases c : i = w <;> simp [c]
    · simp [z]
    · congr 1; by_cases c : j = w <;> simp [c]
  · rw [if_pos rfl]
    obtain ⟨g1, g2, g3⟩ := hD (drawF (a_up F 6 (upd (F.2 6) q 1)) i) j hj
    obtain ⟨f1, f2, f3⟩ := hD (a_up F 6 (upd (F.2 6) q 1)) i hi
    rw [g1, g2, g3, f1, f2, f3, e7]
    refine ⟨by simp [z], ?_, by simp [z]⟩
    by_cases c : i = w
    · have c2 : ¬ j = w := fun h => hij (c.trans h.symm)
      simp [c, c2, z]
    · by_cases c2 : j = w <;> simp [c, c2, z]
  · rw [if_neg (by decide), if_neg (by decide)]
    obtain ⟨g1, g2, g3⟩ := hW _ j i hj hi (fun h => hij h.symm) e7
    rw [g1, g2, g3]
    refine ⟨?_, ?_, ?_⟩
    · congr 1; by_cases c : j = w <;> simp [c]
    · simp [z]
    · congr 1; by_cases c : i = w <;> simp [c]
/-- the row of a bout with another outcome -/
abbrev rowT (S : sS) (i : Nat) (v : Int32) : sS := btU S i (upd (bt S i) 3 v)
theorem rowT_c {i0 : Nat} {v : Int32} (i c : Nat) (h : ¬ (i = i0 ∧ c = 3)) : bt (rowT S i0 v) i c = bt S i c := by
  show va_up S.2.1 (10 + i0) (upd (bt S i0) 3 v) (10 + i) c = _
  simp only [va_up]
  by_cases e : i = i0
  · subst e
    rw [if_pos rfl]
    simp only [upd]
    rw [if_neg (fun z => h ⟨rfl, z⟩)]
  · rw [if_neg (by omega)]
theorem rowT_3 {i0 : Nat} {v : Int32} : bt (rowT S i0 v) i0 3 = v := by
  show va_up S.2.1 (10 + i0) (upd (bt S i0) 3 v) (10 + i0) 3 = _
  simp [va_up, upd]
theorem rowT_q {i0 q : Nat} {v : Int32} (h : q < 10) : (rowT S i0 v).2.1 q = S.2.1 q := by
  show va_up S.2.1 (10 + i0) _ q = _
  simp only [va_up]
  rw [if_neg (by omega)]
theorem rowT_mn {i0 a c : Nat} {v x : Int32} {w : Nat} (hi : i0 < S.2.2 1) (h3 : bt S i0 3 = -1) (h1 : bt S i0 1 = nI a) (h2 : bt S i0 2 = nI c) (ha : a < 1000) (hc : c < 1000) (hw : w < 1000) (hv : 0 ≤ v) : mnS (rowT S i0 v) (nI w) x = mnS S (nI w) x + (if (a = w ∧ v = x) ∨ (c = w ∧ v = 2 - x) then 1 else 0) := by
  have e : mnS (rowT S i0 v) (nI w) x = mnS S (nI w) x - mnF S (nI w) x i0 + mnF (rowT S i0 v) (nI w) x i0 := by
    refine bx_ch (fun i hn => ?_) _ hi
    unfold mnF
    rw [rowT_c i 3 (fun z => hn z.1), rowT_c i 1 (fun z => hn z.1), rowT_c i 2 (fun z => hn z.1)]
  have e1 : mnF S (nI w) x i0 = 0 := by
    unfold mnF
    rw [h3, if_neg (fun z => absurd z.1 (by decide))]
  have e2 : mnF (rowT S i0 v) (nI w) x i0 = if (a = w ∧ v = x) ∨ (c = w ∧ v = 2 - x) then 1 else 0 := by
    unfold mnF
    rw [rowT_3, rowT_c i0 1 (by omega), rowT_c i0 2 (by omega), h1, h2]
    have g : ((nI a = nI w ∧ v = x) ∨ (nI c = nI w ∧ v = 2 - x)) ↔ ((a = w ∧ v = x) ∨ (c = w ∧ v = 2 - x)) := by
      rw [nI_ij (by omega) (by omega), nI_ij (by omega) (by omega)]
    by_cases z : (a = w ∧ v = x) ∨ (c = w ∧ v = 2 - x)
    · rw [if_pos ⟨hv, g.mpr z⟩, if_pos z]
    · rw [if_neg (fun y => z (g.mp y.2)), if_neg z]
  rw [e, e1, e2]; grind
theorem wbS_c {S S' : sS} {w : Int32} : ∀ m, (∀ i, i < m → bt S' i 1 = bt S i 1 ∧ bt S' i 2 = bt S i 2) → wbS S' w m = wbS S w m := by
  intro m
  induction m with
  | zero => intro _; rfl
  | succ m ih =>
    intro h
    obtain ⟨h1, h2⟩ := h m (by omega)
    show (if bt S' m 1 = w ∨ bt S' m 2 = w then (if bt S' m 2 = w then 1 else 0) else wbS S' w m) = if bt S m 1 = w ∨ bt S m 2 = w then (if bt S m 2 = w then 1 else 0) else wbS S w m
    rw [h1, h2, ih (fun i hi => h i (by omega))]
/-- an outcome is told: the tie holds on -/
theorem tiS.tell (h : tiS S F nw nb r) {q a c : Nat} {v : Int32} (hq : q < nb) (ho : F.2 6 q = -1) (h4 : F.2 4 q = nI a) (h5 : F.2 5 q = nI c) (ha : a < nw) (hc : c < nw) (hv : v = 0 ∨ v = 1 ∨ v = 2) : tiS (rowT S (S.2.2 1 - nb + q) v) (tellF F q a c v) nw nb r := by
  obtain ⟨⟨s0, s5, s3, n2, n6⟩, hok, hC, ⟨b1, b2, b3, b4⟩, hN, ⟨l1, l2, l3⟩⟩ := h
  obtain ⟨i0, hi0⟩ : ∃ i0, i0 = S.2.2 1 - nb + q := ⟨_, rfl⟩
  rw [← hi0]
  have hlt : i0 < S.2.2 1 := by omega
  obtain ⟨e4, e5, e6⟩ := b4 q hq
  rw [← hi0] at e4 e5 e6
  have r1 : bt S i0 1 = nI a := e4.symm.trans h4
  have r2 : bt S i0 2 = nI c := e5.symm.trans h5
  have r3 : bt S i0 3 = -1 := e6.symm.trans ho
  have hac : ¬ a = c := by
    obtain ⟨u, a', c', hb, -⟩ := b3 i0 hlt
    obtain ⟨-, g1, g2, g3, g4, g5, -⟩ := hb
    rw [r1] at g1; rw [r2] at g2
    rw [nI_ij (by omega) (by omega)] at g1 g2
    omega
  have hv0 : 0 ≤ v := by rcases hv with rfl | rfl | rfl <;> decide
  have hvm : ¬ v = -1 := by rcases hv with rfl | rfl | rfl <;> decide
  have k1 := (tellF_k (F := F) (q := q) (i := a) (j := c) (v := v))
  have e22 : (rowT S i0 v).2.2 = S.2.2 := rfl
  have hrs : ∀ w, rsS (rowT S i0 v) w = rsS S w := fun w => by
    show bx_sum (rsF2 (rowT S i0 v) w) (S.2.2 3) = _
    refine bx_c _ (fun i _ => ?_)
    unfold rsF2
    rw [rowT_q (by omega)]
  refine ⟨⟨s0, s5, s3, n2, n6⟩, hok.tell hq ho ha hc hac hv, ⟨fun w hw => ?_, fun w hw => ?_, fun i hi => ?_, fun x y hx hy => ?_⟩, ⟨b1, b2, fun i hi => ?_, fun z hz => ?_⟩, fun w hw => ?_, ⟨fun z y hz hy hn => ?_, ?_, ?_⟩⟩
  · obtain ⟨c0, c1, c2, c3, c4, c5, c6, c7, c9⟩ := hC.1 w hw
    obtain ⟨t2, t3, t4⟩ := tell_cnt (F := F) (q := q) (w := w) (v := v) (show a < 12 by omega) (show c < 12 by omega) (by omega) hac hv
    have g : ∀ cc, ¬ cc = 1 → ¬ cc = 2 → ¬ cc = 3 → ¬ cc = 4 → (tellF F q a c v).2 2 (cc * 12 + w) = F.2 2 (cc * 12 + w) := fun cc z1 z2 z3 z4 => tell_in (by omega) (by omega) (by omega) z1 z2 z3 z4
    have m0 := rowT_mn (x := 0) (w := w) hlt r3 r1 r2 (by omega) (by omega) (by omega) hv0
    have m1 := rowT_mn (x := 1) (w := w) hlt r3 r1 r2 (by omega) (by omega) (by omega) hv0
    have m2 := rowT_mn (x := 2) (w := w) hlt r3 r1 r2 (by omega) (by omega) (by omega) hv0
    rw [show (2 - 0 : Int32) = 2 from rfl] at m0
    rw [show (2 - 1 : Int32) = 1 from rfl] at m1
    rw [show (2 - 2 : Int32) = 0 from rfl] at m2
    refine ⟨?_, ?_, ?_, ?_, ?_, ?_, ?_, ?_, ?_⟩
    · rw [g 0 (by omega) (by omega) (by omega) (by omega), rowT_q (by omega)]; exact c0
    · rw [tell_pts (by omega) (by omega) (by omega) hac]
      unfold ptS
      rw [m0, m1, hrs, rowT_q (by omega), c1]
      have w0 := hC.2.2.1 0 (by omega)
      have w1 := hC.2.2.1 1 (by omega)
      rw [w0, w1]
      unfold ptS
      rcases hv with rfl | rfl | rfl
      · rw [if_neg (by decide), if_pos rfl]
        by_cases z : w = a
        · subst z; simp; grind
        · have z2 : ¬ a = w := fun y => z y.symm
          simp [z, z2]
      · rw [if_pos rfl]
        by_cases z : w = a
        · subst z; simp; grind
        · have z2 : ¬ a = w := fun y => z y.symm
          by_cases y : w = c
          · subst y; simp [z2]; grind
          · have y2 : ¬ c = w := fun x => y x.symm
            simp [z, z2, y, y2]
      · rw [if_neg (by decide : ¬ (2 : Int32) = 1), show (if (2 : Int32) = 0 then a else c) = c from if_neg (by decide)]
        by_cases z : w = c
        · subst z; simp; grind
        · have z2 : ¬ c = w := fun y => z y.symm
          simp [z, z2]
    · rw [t2, m0, c2]
    · rw [t3, m1, c3]
    · rw [t4, m2, c4]
    · rw [g 5 (by omega) (by omega) (by omega) (by omega), hrs]; exact c5
    · rw [g 6 (by omega) (by omega) (by omega) (by omega), c6]
      exact bx_c _ (fun i _ => by unfold blF; rw [rowT_c i 1 (by omega), rowT_c i 2 (by omega)])
    · rw [g 7 (by omega) (by omega) (by omega) (by omega), c7]
      exact bx_c _ (fun i _ => by unfold flF; rw [rowT_c i 4 (by omega)])
    · rw [g 9 (by omega) (by omega) (by omega) (by omega), c9]
      exact (wbS_c _ (fun i _ => ⟨rowT_c i 1 (by omega), rowT_c i 2 (by omega)⟩)).symm
  · rw [rowT_q (by omega), tell_in (by omega) (by omega) (by omega) (by omega) (by omega) (by omega) (by omega)]; exact hC.2.1 w hw
  · rw [k1.2.1 1 (by omega) (by omega), rowT_q (by omega)]; exact hC.2.2.1 i hi
  · rw [k1.2.1 3 (by omega) (by omega), hC.2.2.2 x y hx hy]
    exact bx_c _ (fun i _ => by unfold mtF; rw [rowT_c i 0 (by omega), rowT_c i 1 (by omega), rowT_c i 2 (by omega)])
  · obtain ⟨u, a', c', hb, hu, d1, d2⟩ := b3 i hi
    obtain ⟨g0, g1, g2, g3, g4, g5, g6, g7⟩ := hb
    refine ⟨u, a', c', ⟨?_, ?_, ?_, g3, g4, g5, ?_, ?_⟩, hu, fun z => ?_, d2⟩
    · rw [rowT_c i 0 (by omega)]; exact g0
    · rw [rowT_c i 1 (by omega)]; exact g1
    · rw [rowT_c i 2 (by omega)]; exact g2
    · by_cases y : i = i0
      · subst y; rw [rowT_3]; exact Or.inr hv
      · rw [rowT_c i 3 (fun x => y x.1)]; exact g6
    · rw [rowT_c i 4 (by omega)]; exact g7
    · have z : i + nb < S.2.2 1 := z
      rw [rowT_c i 3 (fun x => by omega)]
      exact d1 z
  · obtain ⟨f4, f5, f6⟩ := b4 z hz
    show (tellF F q a c v).2 4 z = bt (rowT S i0 v) (S.2.2 1 - nb + z) 1 ∧ (tellF F q a c v).2 5 z = bt (rowT S i0 v) (S.2.2 1 - nb + z) 2 ∧ (tellF F q a c v).2 6 z = bt (rowT S i0 v) (S.2.2 1 - nb + z) 3
    rw [k1.2.1 4 (by omega) (by omega), k1.2.1 5 (by omega) (by omega), k1.2.2, rowT_c _ 1 (by omega), rowT_c _ 2 (by omega)]
    refine ⟨f4, f5, ?_⟩
    by_cases y : z = q
    · subst y
      rw [← hi0, rowT_3]
      simp [upd]
    · rw [rowT_c _ 3 (fun x => by omega)]
      simp only [upd]
      rw [if_neg y]; exact f6
  · have g1 : bwN (rowT S i0 v) w = bwN S w := cnN_c _ (fun i _ => by rw [rowT_c i 1 (by omega), rowT_c i 2 (by omega)])
    have g2 : rsN (rowT S i0 v) w = rsN S w := cnN_c _ (fun i _ => by rw [rowT_q (by omega)])
    rw [g1, g2]; exact hN w hw
  · rw [k1.2.1 4 (by omega) (by omega), k1.2.1 5 (by omega) (by omega)]; exact l1 z y hz hy hn
  · rw [k1.1, rowT_q (by omega)]; exact l2
  · rw [rowT_q (by omega)]; exact l3
/-- a wrestler is turned -/
theorem tiS.turn (h : tiS S F nw nb r) {w : Nat} (hw : w < nw) {g : Nat → Int32} (h1 : ∀ x, x < nw → ¬ x = w → g x = S.2.1 6 x) (h2 : S.2.1 6 w = 0 → g w = 1) (h3 : S.2.1 6 w = 1 → g w = 0) : tiS (S.1, va_up S.2.1 6 g, S.2.2) (tuF F (nI w)) nw nb r := by
  obtain ⟨⟨s0, s5, s3, n2, n6⟩, hok, hC, ⟨b1, b2, b3, b4⟩, hN, ⟨l1, l2, l3⟩⟩ := h
  have ew : wi (nI w) = w := wi_nI (by omega)
  have hq : ∀ q, ¬ q = 6 → (va_up S.2.1 6 g) q = S.2.1 q := fun q hn => by simp [va_up, hn]
  have hb : ∀ i c, bt (S.1, va_up S.2.1 6 g, S.2.2) i c = bt S i c := fun i c => by
    show va_up S.2.1 6 g (10 + i) c = _
    rw [hq _ (by omega)]
  have hat : ∀ cc x, x < 12 → (tuF F (nI w)).2 2 (cc * 12 + x) = if cc = 8 ∧ x = w then 1 - F.2 2 (8 * 12 + w) else F.2 2 (cc * 12 + x) := fun cc x hx => by
    have := tuF_at (i := 0) (F := F) (w := nI w) (c := x) (q := cc) hx (by rw [ew]; omega)
    rw [ew] at this; exact this
  have hmn : ∀ x c, mnS (S.1, va_up S.2.1 6 g, S.2.2) x c = mnS S x c := fun x c => bx_c _ (fun i _ => by unfold mnF; rw [hb, hb, hb])
  have hrs : ∀ x, rsS (S.1, va_up S.2.1 6 g, S.2.2) x = rsS S x := fun x => bx_c _ (fun i _ => by unfold rsF2; show (if va_up S.2.1 6 g 8 i = x then (1 : Int32) else 0) = _; rw [hq 8 (by omega)])
  refine ⟨⟨s0, s5, s3, n2, n6⟩, tuF_ok hok (by rw [ew]; exact hw), ⟨fun x hx => ?_, fun x hx => ?_, fun i hi => ?_, fun x y hx hy => ?_⟩, ⟨b1, b2, fun i hi => ?_, fun z hz => ?_⟩, fun x hx => ?_, ⟨fun z y hz hy hn => l1 z y hz hy hn, ?_, ?_⟩⟩
  · obtain ⟨c0, c1, c2, c3, c4, c5, c6, c7, c9⟩ := hC.1 x hx
    have z : ∀ cc, ¬ cc = 8 → (tuF F (nI w)).2 2 (cc * 12 + x) = F.2 2 (cc * 12 + x) := fun cc hn => by rw [hat cc x (by omega), if_neg (fun y => hn y.1)]
    refine ⟨?_, ?_, ?_, ?_, ?_, ?_, ?_, ?_, ?_⟩
    · rw [z 0 (by omega), c0]; show _ = va_up S.2.1 6 g 1 x; rw [hq 1 (by omega)]
    · rw [z 1 (by omega), c1]
      unfold ptS
      rw [hmn, hmn, hrs]
      show _ = _ * va_up S.2.1 6 g 2 0 + _ * va_up S.2.1 6 g 2 1 + _ * va_up S.2.1 6 g 2 2
      rw [hq 2 (by omega)]
    · rw [z 2 (by omega), c2, hmn]
    · rw [z 3 (by omega), c3, hmn]
    · rw [z 4 (by omega), c4, hmn]
    · rw [z 5 (by omega), c5, hrs]
    · rw [z 6 (by omega), c6]; exact bx_c _ (fun i _ => by unfold blF; rw [hb, hb])
    · rw [z 7 (by omega), c7]; exact bx_c _ (fun i _ => by unfold flF; rw [hb])
    · rw [z 9 (by omega), c9]; exact (wbS_c _ (fun i _ => ⟨hb i 1, hb i 2⟩)).symm
  · rw [hat 8 x (by omega)]
    show (va_up S.2.1 6 g 6 x = 0 ∧ _) ∨ (va_up S.2.1 6 g 6 x = 1 ∧ _)
    have eg : va_up S.2.1 6 g 6 = g := by simp [va_up]
    rw [eg]
    by_cases c : x = w
    · subst c
      rw [if_pos ⟨rfl, rfl⟩]
      rcases hC.2.1 x hx with ⟨z1, z2⟩ | ⟨z1, z2⟩
      · exact Or.inr ⟨h2 z1, by rw [z2]; rfl⟩
      · exact Or.inl ⟨h3 z1, by rw [z2]; rfl⟩
    · rw [if_neg (fun y => c y.2), h1 x hx c]; exact hC.2.1 x hx
  · show F.2 1 i = va_up S.2.1 6 g 2 i
    rw [hq 2 (by omega)]; exact hC.2.2.1 i hi
  · show F.2 3 (x * 12 + y) = _
    rw [hC.2.2.2 x y hx hy]; exact bx_c _ (fun i _ => by unfold mtF; rw [hb, hb, hb])
  · obtain ⟨u, a, c, ⟨g0, g1, g2, g3, g4, g5, g6, g7⟩, hu, d1, d2⟩ := b3 i hi
    exact ⟨u, a, c, ⟨by rw [hb]; exact g0, by rw [hb]; exact g1, by rw [hb]; exact g2, g3, g4, g5, by rw [hb]; exact g6, by rw [hb]; exact g7⟩, hu, by rw [hb]; exact d1, d2⟩
  · obtain ⟨f4, f5, f6⟩ := b4 z hz
    exact ⟨by rw [hb]; exact f4, by rw [hb]; exact f5, by rw [hb]; exact f6⟩
  · have g1 : bwN (S.1, va_up S.2.1 6 g, S.2.2) x = bwN S x := cnN_c _ (fun i _ => by rw [hb, hb])
    have g2 : rsN (S.1, va_up S.2.1 6 g, S.2.2) x = rsN S x := cnN_c _ (fun i _ => by show (va_up S.2.1 6 g 8 i = nI x) ↔ _; rw [hq 8 (by omega)])
    rw [g1, g2]; exact hN x hx
  · show (r = 0 ∧ F.1 9 = -1) ∨ (0 < r ∧ F.1 9 = va_up S.2.1 6 g 8 (r - 1))
    rw [hq 8 (by omega)]; exact l2
  · intro i hi
    show va_up S.2.1 6 g 8 i = -1 ∨ ∃ w, w < nw ∧ va_up S.2.1 6 g 8 i = nI w
    rw [hq 8 (by omega)]; exact l3 i hi
end XTA
