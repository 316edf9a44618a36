/-! WHAT HOLDS OF A FIELD ALL ALONG -/
section XVA
variable {F : xS} {nw nb r : Nat}
theorem at_add {c q i w : Nat} {d : Int32} (hi : i < 12) (hw : w < 12) : (f_add F q i d).2 2 (c * 12 + w) = if c = q ∧ w = i then F.2 2 (q * 12 + i) + d else F.2 2 (c * 12 + w) := by
  show upd (F.2 2) (q * 12 + i) (F.2 2 (q * 12 + i) + d) (c * 12 + w) = _
  simp only [upd]
  by_cases h : c = q ∧ w = i
  · rw [if_pos h, if_pos (by obtain ⟨h1, h2⟩ := h; subst h1 h2; rfl)]
  · rw [if_neg h, if_neg (by omega)]
theorem at_st {c q i w : Nat} {d : Int32} (hi : i < 12) (hw : w < 12) : (f_set F q i d).2 2 (c * 12 + w) = if c = q ∧ w = i then d else F.2 2 (c * 12 + w) := by
  show upd (F.2 2) (q * 12 + i) d (c * 12 + w) = _
  simp only [upd]
  by_cases h : c = q ∧ w = i
  · rw [if_pos h, if_pos (by obtain ⟨h1, h2⟩ := h; subst h1 h2; rfl)]
  · rw [if_neg h, if_neg (by omega)]
/-- how many bouts have no outcome -/
def opN (F : xS) (nb : Nat) : Nat := (List.range nb).countP (fun q => F.2 6 q = -1)
theorem opN_s {k : Nat} : opN F (k + 1) = opN F k + (if F.2 6 k = -1 then 1 else 0) := by
  unfold opN
  rw [List.range_succ, List.countP_append]
  simp [List.countP_cons]
theorem opN_le : ∀ nb, opN F nb ≤ nb := by
  intro nb
  induction nb with
  | zero => exact Nat.le_refl _
  | succ k ih => rw [opN_s]; split <;> omega
theorem opN_sum : ∀ nb, bx_sum (opn (F.2 6)) nb = nI (opN F nb) := by
  intro nb
  induction nb with
  | zero => rfl
  | succ k ih =>
    show bx_sum (opn (F.2 6)) k + opn (F.2 6) k = _
    rw [ih, opN_s]
    unfold opn
    split
    · exact nI_1 _
    · simp
theorem opN_0 : ∀ nb, opN F nb = 0 → ∀ q, q < nb → ¬ F.2 6 q = -1 := by
  intro nb
  induction nb with
  | zero => intro _ q hq; omega
  | succ k ih =>
    intro h q hq
    rw [opN_s] at h
    by_cases e : q = k
    · subst e
      intro z
      rw [if_pos z] at h
      omega
    · exact ih (by omega) q (by omega)
theorem opN_upd {G : xS} {q : Nat} {v : Int32} (h6 : G.2 6 = upd (F.2 6) q v) (hv : ¬ v = -1) (ho : F.2 6 q = -1) : ∀ nb, q < nb → opN G nb + 1 = opN F nb := by
  have key : ∀ m, m ≤ q → opN G m = opN F m := by
    intro m
    induction m with
    | zero => intro _; rfl
    | succ m ih =>
      intro hm
      have e6 : G.2 6 m = F.2 6 m := by rw [h6]; simp only [upd]; rw [if_neg (by omega)]
      rw [opN_s, opN_s, ih (by omega), e6]
  intro nb
  induction nb with
  | zero => intro h; omega
  | succ k ih =>
    intro hq
    rw [opN_s, opN_s]
    by_cases e : k = q
    · subst e
      rw [key k (Nat.le_refl _), h6]
      simp only [upd, if_true]
      rw [if_neg hv, if_pos ho]
    · have := ih (by omega)
      have e6 : G.2 6 k = F.2 6 k := by rw [h6]; simp only [upd]; rw [if_neg e]
      rw [e6]
      omega
theorem opN_all : ∀ nb, (∀ q, q < nb → F.2 6 q = -1) → opN F nb = nb := by
  intro nb
  induction nb with
  | zero => intro _; rfl
  | succ k ih => intro h; rw [opN_s, ih (fun q hq => h q (by omega)), if_pos (h k (by omega))]
/-- r rounds were paired, the latest one has nb bouts -/
def okF (F : xS) (nw nb r : Nat) : Prop := (F.1 0 = nI nw ∧ nw ≤ 12) ∧ (F.1 5 = nI nb ∧ nb ≤ 6) ∧ (F.1 1 = nI r ∧ r ≤ 20) ∧ (∀ w, w < nw → 0 ≤ (F.2 2 (1 * 12 + w)).toInt ∧ (F.2 2 (1 * 12 + w)).toInt + 9 * (opN F nb : Int) ≤ 63 * (r : Int)) ∧ (∀ i j, i < nw → j < nw → 0 ≤ (F.2 3 (i * 12 + j)).toInt ∧ (F.2 3 (i * 12 + j)).toInt ≤ 6 * (r : Int)) ∧ (∀ i, i < 3 → 0 ≤ (F.2 1 i).toInt ∧ (F.2 1 i).toInt ≤ 9) ∧ bdV F nw nb ∧ (∀ w, w < nw → F.2 2 (8 * 12 + w) = 0 ∨ F.2 2 (8 * 12 + w) = 1) ∧ ∀ q, q < nb → F.2 6 q = -1 ∨ F.2 6 q = 0 ∨ F.2 6 q = 1 ∨ F.2 6 q = 2
theorem bm_of {z : Int} (h1 : -2147483648 ≤ z) (h2 : z < 2147483648) : z.bmod (2 ^ 32) = z := Int.bmod_eq_of_le (by omega) (by omega)
theorem add_i {a c : Int32} (h1 : -2147483648 ≤ a.toInt + c.toInt) (h2 : a.toInt + c.toInt < 2147483648) : (a + c).toInt = a.toInt + c.toInt := by
  rw [Int32.toInt_add]; exact bm_of h1 h2
theorem mul_i {a c : Int32} {x y : Int} (ha : 0 ≤ a.toInt ∧ a.toInt ≤ x) (hc : 0 ≤ c.toInt ∧ c.toInt ≤ y) (hxy : x * y < 2147483648) : 0 ≤ (a * c).toInt ∧ (a * c).toInt ≤ x * y := by
  have h1 : 0 ≤ a.toInt * c.toInt := Int.mul_nonneg ha.1 hc.1
  have h2 : a.toInt * c.toInt ≤ x * y := Int.mul_le_mul ha.2 hc.2 hc.1 (Int.le_trans ha.1 ha.2)
  have e : (a * c).toInt = a.toInt * c.toInt := by
    rw [Int32.toInt_mul]; exact bm_of (by omega) (by omega)
  rw [e]; exact ⟨h1, h2⟩
theorem sum_i {f : Nat → Int32} {B : Int} (hB : 0 ≤ B) : ∀ n, (∀ i, i < n → 0 ≤ (f i).toInt ∧ (f i).toInt ≤ B) → n * B < 2147483648 → 0 ≤ (bx_sum f n).toInt ∧ (bx_sum f n).toInt ≤ n * B := by
  intro n
  induction n with
  | zero => intro _ _; exact ⟨by show 0 ≤ (0 : Int32).toInt; decide, by show (0 : Int32).toInt ≤ _; simp [i_0]⟩
  | succ n ih =>
    intro h hn
    have e0 : ((n + 1 : Nat) : Int) * B = n * B + B := by rw [Int.natCast_add, Int.add_mul]; simp
    rw [e0] at hn ⊢
    have i1 := ih (fun i hi => h i (by omega)) (by omega)
    have i2 := h n (by omega)
    have e : (bx_sum f (n + 1)).toInt = (bx_sum f n).toInt + (f n).toInt := by
      show (bx_sum f n + f n).toInt = _
      exact add_i (by omega) (by omega)
    rw [e]
    omega
theorem okF.bd (h : okF F nw nb r) : bdP F nw := fun w hw => by
  obtain ⟨⟨-, h12⟩, -, ⟨-, hr⟩, hp, hm, -⟩ := h
  have hr2 : (r : Int) ≤ 20 := by omega
  have := sum_i (f := fun o => F.2 3 (w * 12 + o) * F.2 2 (1 * 12 + o)) (B := 120 * 1260) (by decide) nw (fun o ho => mul_i ⟨(hm w o hw ho).1, by have := (hm w o hw ho).2; omega⟩ ⟨(hp o ho).1, by have := (hp o ho).2; omega⟩ (by decide)) (by omega)
  refine ⟨this.1, ?_⟩
  have h2 := this.2
  show (rpts F nw w).toInt < 2 ^ 30
  unfold rpts
  omega
theorem drawF_1 {i w : Nat} (hi : i < 12) (hw : w < 12) : (drawF F i).2 2 (1 * 12 + w) = if w = i then F.2 2 (1 * 12 + w) + F.2 1 1 else F.2 2 (1 * 12 + w) := by
  unfold drawF
  rw [at_add hi hw, at_add hi hw, at_add hi hi]
  have e1 : (f_add F 3 i 1).2 1 = F.2 1 := by simp [va_up]
  rw [e1, if_neg (show ¬ (1 = 3 ∧ w = i) from fun z => absurd z.1 (by decide)), if_neg (show ¬ (1 = 3 ∧ i = i) from fun z => absurd z.1 (by decide))]
  by_cases e : w = i
  · subst e; rw [if_pos ⟨rfl, rfl⟩, if_pos rfl]
  · rw [if_neg (fun z => e z.2), if_neg e]
theorem winF_1 {i j w : Nat} (hi : i < 12) (hj : j < 12) (hw : w < 12) : (winF F i j).2 2 (1 * 12 + w) = if w = i then F.2 2 (1 * 12 + w) + F.2 1 0 else F.2 2 (1 * 12 + w) := by
  unfold winF
  rw [at_add hj hw, at_add hi hw, at_add hi hw, at_add hi hi]
  have e1 : (f_add F 2 i 1).2 1 = F.2 1 := by simp [va_up]
  rw [e1, if_neg (show ¬ (1 = 4 ∧ w = j) from fun z => absurd z.1 (by decide)), if_neg (show ¬ (1 = 2 ∧ w = i) from fun z => absurd z.1 (by decide)), if_neg (show ¬ (1 = 2 ∧ i = i) from fun z => absurd z.1 (by decide))]
  by_cases e : w = i
  · subst e; rw [if_pos ⟨rfl, rfl⟩, if_pos rfl]
  · rw [if_neg (fun z => e z.2), if_neg e]
/-- what telling does to the points -/
theorem tell_pts {q i j w : Nat} {v : Int32} (hi : i < 12) (hj : j < 12) (hw : w < 12) (hij : ¬ i = j) : (tellF F q i j v).2 2 (1 * 12 + w) = if v = 1 then (if w = i ∨ w = j then F.2 2 (1 * 12 + w) + F.2 1 1 else F.2 2 (1 * 12 + w)) else if w = (if v = 0 then i else j) then F.2 2 (1 * 12 + w) + F.2 1 0 else F.2 2 (1 * 12 + w) := by
  unfold tellF
  split
  · rw [drawF_1 hj hw, drawF_1 hi hw]
    have e9 : (drawF (a_up F 6 (upd (F.2 6) q v)) i).2 1 = F.2 1 := by unfold drawF; simp [va_up]
    have e8 : (a_up F 6 (upd (F.2 6) q v)).2 1 = F.2 1 := by simp [va_up]
    have e7 : (a_up F 6 (upd (F.2 6) q v)).2 2 = F.2 2 := by simp [va_up]
    rw [e9, e8, e7]
    by_cases e1 : w = i
    · subst e1
      rw [if_neg hij, if_pos rfl, if_pos (Or.inl rfl)]
    · by_cases e2 : w = j
      · rw [if_pos e2, if_neg e1, if_pos (Or.inr e2)]
      · rw [if_neg e2, if_neg e1, if_neg (fun z => z.elim e1 e2)]
  split
  · rw [winF_1 hi hj hw]
    have e8 : (a_up F 6 (upd (F.2 6) q v)).2 1 = F.2 1 := by simp [va_up]
    have e7 : (a_up F 6 (upd (F.2 6) q v)).2 2 = F.2 2 := by simp [va_up]
    rw [e8, e7]
  · rw [winF_1 hj hi hw]
    have e8 : (a_up F 6 (upd (F.2 6) q v)).2 1 = F.2 1 := by simp [va_up]
    have e7 : (a_up F 6 (upd (F.2 6) q v)).2 2 = F.2 2 := by simp [va_up]
    rw [e8, e7]
theorem tell_in {q i j w : Nat} {v : Int32} (hi : i < 12) (hj : j < 12) (hw : w < 12) {c : Nat} (h1 : ¬ c = 1) (h2 : ¬ c = 2) (h3 : ¬ c = 3) (h4 : ¬ c = 4) : (tellF F q i j v).2 2 (c * 12 + w) = F.2 2 (c * 12 + w) := by
  unfold tellF
  split
  · unfold drawF
    rw [at_add hj hw, at_add hj hw, at_add hi hw, at_add hi hw]
    simp [h1, h3, va_up]
  split
  · unfold winF
    rw [at_add hj hw, at_add hi hw, at_add hi hw]
    simp [h1, h2, h4, va_up]
  · unfold winF
    rw [at_add hi hw, at_add hj hw, at_add hj hw]
    simp [h1, h2, h4, va_up]
theorem okF.tell (h : okF F nw nb r) {q i j : Nat} {v : Int32} (hq : q < nb) (ho : F.2 6 q = -1) (hi : i < nw) (hj : j < nw) (hij : ¬ i = j) (hv : v = 0 ∨ v = 1 ∨ v = 2) : okF (tellF F q i j v) nw nb r := by
  obtain ⟨⟨a1, a2⟩, ⟨b1, b2⟩, ⟨c1, c2⟩, hp, hm, hw, hbd, hin, hou⟩ := h
  obtain ⟨k1, k2, k3⟩ := tellF_k (F := F) (q := q) (i := i) (j := j) (v := v)
  have hvm : ¬ v = -1 := by rcases hv with rfl | rfl | rfl <;> decide
  have hop := opN_upd k3 hvm ho nb hq
  refine ⟨⟨by rw [k1]; exact a1, a2⟩, ⟨by rw [k1]; exact b1, b2⟩, ⟨by rw [k1]; exact c1, c2⟩, fun w hwn => ?_, fun a c ha hc => by rw [k2 3 (by decide) (by decide)]; exact hm a c ha hc, fun a ha => by rw [k2 1 (by decide) (by decide)]; exact hw a ha, bdV_tell hbd, fun w hwn => by rw [tell_in (by omega) (by omega) (by omega) (by decide) (by decide) (by decide) (by decide)]; exact hin w hwn, fun p hp2 => ?_⟩
  · rw [tell_pts (by omega) (by omega) (by omega) hij]
    have z := hp w hwn
    have w0 := hw 0 (by omega)
    have w1 := hw 1 (by omega)
    have e0 := add_i (a := F.2 2 (1 * 12 + w)) (c := F.2 1 0) (by omega) (by omega)
    have e1 := add_i (a := F.2 2 (1 * 12 + w)) (c := F.2 1 1) (by omega) (by omega)
    (repeat' split) <;> omega
  · rw [k3]
    simp only [upd]
    split
    · rcases hv with rfl | rfl | rfl
      · exact Or.inr (Or.inl rfl)
      · exact Or.inr (Or.inr (Or.inl rfl))
      · exact Or.inr (Or.inr (Or.inr rfl))
    · exact hou p hp2
/-- all bouts told -/
theorem okF.tl {ru : xS → Nat → Nat → Int32} (hru : ∀ F i j, ru F i j = 0 ∨ ru F i j = 1 ∨ ru F i j = 2) : ∀ d k F c, k + d = nb → (∀ q, q < k → ¬ F.2 6 q = -1) → okF F nw nb r → okF (tlP ru d k F c).1 nw nb r ∧ opN (tlP ru d k F c).1 nb = 0 := by
  intro d
  induction d with
  | zero =>
    intro k F c hk hlo h
    refine ⟨h, ?_⟩
    have : k = nb := by omega
    subst this
    show opN F k = 0
    have key : ∀ m, m ≤ k → opN F m = 0 := by
      intro m
      induction m with
      | zero => intro _; rfl
      | succ m ih => intro hm; rw [opN_s, ih (by omega), if_neg (hlo m (by omega))]
    exact key k (Nat.le_refl _)
  | succ d ih =>
    intro k F c hk hlo h
    simp only [tlP]
    split
    · rename_i ho
      obtain ⟨i, j, e4, hi, e5, hj, hij⟩ := h.2.2.2.2.2.2.1 k (by omega)
      have h12 := h.1.2
      rw [e4, e5, nI_clamp (by omega), nI_clamp (by omega)]
      refine ih (k + 1) _ _ (by omega) (fun q hq => ?_) (h.tell (by omega) ho hi hj hij (hru _ _ _))
      rw [(tellF_k (F := F)).2.2]
      simp only [upd]
      split
      · rcases hru F i j with e | e | e <;> rw [e] <;> decide
      · exact hlo q (by omega)
    · rename_i ho
      refine ih (k + 1) _ _ (by omega) (fun q hq => ?_) h
      by_cases e : q = k
      · subst e; exact ho
      · exact hlo q (by omega)
/-- what a bout that begins does -/
theorem sb_k {q i j : Nat} : (startBoutF F q i j).1 = F.1 ∧ (startBoutF F q i j).2 1 = F.2 1 ∧ (startBoutF F q i j).2 3 = m_up (F.2 3) i j ∧ (startBoutF F q i j).2 4 = upd (F.2 4) q (nI (sx_r F i j)) ∧ (startBoutF F q i j).2 5 = upd (F.2 5) q (nI (sx_b F i j)) ∧ (startBoutF F q i j).2 6 = upd (F.2 6) q (-1) := by
  unfold startBoutF
  rw [sx2_up]
  split <;> (refine ⟨rfl, ?_, ?_, ?_, ?_, ?_⟩ <;> simp [va_up])
theorem sbo_at {q i j w c : Nat} (hi : i < 12) (hj : j < 12) (hw : w < 12) (h6 : ¬ c = 6) (h7 : ¬ c = 7) (h9 : ¬ c = 9) : (startBoutF F q i j).2 2 (c * 12 + w) = F.2 2 (c * 12 + w) := by
  have hr : sx_r F i j < 12 := by unfold sx_r; split <;> assumption
  have hu : sx_b F i j < 12 := by unfold sx_b; split <;> assumption
  unfold startBoutF
  have key : ∀ X : xS, (sx_2 X (sx_r F i j) (sx_b F i j)).2 2 (c * 12 + w) = X.2 2 (c * 12 + w) := fun X => by
    unfold sx_2
    rw [at_st hu hw, at_add hu hw, at_st hr hw, at_add hr hw]
    simp [h6, h9]
  rw [key]
  split
  · rw [at_add hi hw]
    simp [h7, va_up]
  · simp [va_up]
theorem mup_at {f : Nat → Int32} {i j a c : Nat} (hi : i < 12) (hj : j < 12) (ha : a < 12) (hc : c < 12) (hij : ¬ i = j) : m_up f i j (a * 12 + c) = if (a = i ∧ c = j) ∨ (a = j ∧ c = i) then f (a * 12 + c) + 1 else f (a * 12 + c) := by
  unfold m_up
  simp only [upd]
  by_cases h1 : a = i ∧ c = j
  · obtain ⟨e1, e2⟩ := h1
    subst e1 e2
    rw [if_neg (by omega), if_pos rfl, if_pos (Or.inl ⟨rfl, rfl⟩)]
  · by_cases h2 : a = j ∧ c = i
    · obtain ⟨e1, e2⟩ := h2
      subst e1 e2
      rw [if_pos rfl, if_neg (by omega), if_pos (Or.inr ⟨rfl, rfl⟩)]
    · rw [if_neg (by omega), if_neg (by omega), if_neg (fun z => z.elim h1 h2)]
/-- a round's pairs -/
def prV (ah be : Nat → Nat) (np nw : Nat) : Prop := np ≤ 6 ∧ ∀ q, q < np → ah q < nw ∧ be q < nw ∧ ¬ ah q = be q
theorem srL_k {ah be : Nat → Nat} (h12 : nw ≤ 12) : ∀ np, (∀ q, q < np → ah q < nw ∧ be q < nw ∧ ¬ ah q = be q) → (srL F ah be np).1 = F.1 ∧ (srL F ah be np).2 1 = F.2 1 ∧ (∀ c w, w < 12 → ¬ c = 6 → ¬ c = 7 → ¬ c = 9 → (srL F ah be np).2 2 (c * 12 + w) = F.2 2 (c * 12 + w)) ∧ (∀ q, q < np → (srL F ah be np).2 6 q = -1 ∧ ∃ i j, (srL F ah be np).2 4 q = nI i ∧ i < nw ∧ (srL F ah be np).2 5 q = nI j ∧ j < nw ∧ ¬ i = j) ∧ ∀ m : Int, m + np < 2147483648 → (∀ i j, i < nw → j < nw → 0 ≤ (F.2 3 (i * 12 + j)).toInt ∧ (F.2 3 (i * 12 + j)).toInt ≤ m) → ∀ i j, i < nw → j < nw → 0 ≤ ((srL F ah be np).2 3 (i * 12 + j)).toInt ∧ ((srL F ah be np).2 3 (i * 12 + j)).toInt ≤ m + np := by
  intro np
  induction np with
  | zero => intro _; exact ⟨rfl, rfl, fun _ _ _ _ _ _ => rfl, fun q hq => absurd hq (Nat.not_lt_zero q), fun m _ h i j hi hj => by have := h i j hi hj; exact ⟨this.1, by have z := this.2; show (F.2 3 (i * 12 + j)).toInt ≤ m + ((0 : Nat) : Int); omega⟩⟩
  | succ k ih =>
    intro h
    obtain ⟨i1, i2, i3, i4, i5⟩ := ih (fun q hq => h q (by omega))
    obtain ⟨ha, hb, hab⟩ := h k (by omega)
    obtain ⟨s1, s2, s3, s4, s5, s6⟩ := sb_k (F := srL F ah be k) (q := k) (i := ah k) (j := be k)
    refine ⟨s1.trans i1, s2.trans i2, fun c w hw h6 h7 h9 => (sbo_at (by omega) (by omega) hw h6 h7 h9).trans (i3 c w hw h6 h7 h9), fun q hq => ?_, fun m hm hmet a c ha2 hc2 => ?_⟩
    · show (startBoutF _ k _ _).2 6 q = -1 ∧ ∃ i j, (startBoutF _ k _ _).2 4 q = nI i ∧ i < nw ∧ (startBoutF _ k _ _).2 5 q = nI j ∧ j < nw ∧ ¬ i = j
      rw [s4, s5, s6]
      simp only [upd]
      by_cases e : q = k
      · subst e
        simp only [if_true]
        refine ⟨trivial, _, _, rfl, ?_, rfl, ?_, ?_⟩
        · unfold sx_r; split <;> assumption
        · unfold sx_b; split <;> assumption
        · unfold sx_r sx_b; split
          · exact hab
          · exact Ne.symm hab
      · simp only [if_neg e]
        exact i4 q (by omega)
    · have z := i5 m (by omega) hmet a c ha2 hc2
      have e3 : (srL F ah be (k + 1)).2 3 = m_up ((srL F ah be k).2 3) (ah k) (be k) := s3
      rw [e3, mup_at (by omega) (by omega) (by omega) (by omega) hab]
      split
      · have e := add_i (a := (srL F ah be k).2 3 (a * 12 + c)) (c := 1) (by rw [i_1]; omega) (by rw [i_1]; omega)
        rw [e, i_1]; omega
      · omega
theorem okF.round (h : okF F nw nb r) (h0 : opN F nb = 0) (hr : r < 20) {ah be : Nat → Nat} {np : Nat} (hp : prV ah be np nw) {rs : Int32} (hrs : rs = -1 ∨ ∃ w, w < nw ∧ rs = nI w) : okF (startRoundF F (pX np rs) ah be np) nw np (r + 1) := by
  obtain ⟨⟨a1, a2⟩, ⟨b1, b2⟩, ⟨c1, c2⟩, hpt, hm, hw, hbd, hin, hou⟩ := h
  obtain ⟨hp6, hp⟩ := hp
  obtain ⟨s1, s2, s3, s4, s5⟩ := srL_k (F := sr_0 F (pX np rs)) a2 np hp
  have e9 : ∀ z, (startRoundF F (pX np rs) ah be np).2 z = if z = 2 then (startRoundF F (pX np rs) ah be np).2 2 else (srL (sr_0 F (pX np rs)) ah be np).2 z := fun z => by
    unfold startRoundF restF
    split
    · split
      · rename_i e; subst e; rfl
      · rfl
    · by_cases e : z = 2
      · subst e; rfl
      · rw [if_neg e]; simp [va_up, e]
  have ei : ∀ z, ¬ z = 9 → (startRoundF F (pX np rs) ah be np).1 z = (sr_0 F (pX np rs)).1 z := fun z hz => by
    unfold startRoundF restF
    split
    · show (if z = 9 then _ else (srL (sr_0 F (pX np rs)) ah be np).1 z) = _
      rw [if_neg hz, s1]
    · show (if z = 9 then _ else (srL (sr_0 F (pX np rs)) ah be np).1 z) = _
      rw [if_neg hz, s1]
  have o6 : ∀ q, q < np → (startRoundF F (pX np rs) ah be np).2 6 q = -1 := fun q hq => by rw [e9 6, if_neg (by decide)]; exact (s4 q hq).1
  have hon : opN (startRoundF F (pX np rs) ah be np) np = np := opN_all np o6
  have hat : ∀ c w, w < nw → ¬ c = 6 → ¬ c = 7 → ¬ c = 9 → ¬ c = 5 → (startRoundF F (pX np rs) ah be np).2 2 (c * 12 + w) = if c = 1 ∧ rs = nI w then F.2 2 (c * 12 + w) + F.2 1 2 else F.2 2 (c * 12 + w) := fun c w hwn h6 h7 h9 h5 => by
    have base := s3 c w (by omega) h6 h7 h9
    unfold startRoundF restF
    rcases hrs with e | ⟨u, hu, e⟩
    · rw [if_pos (show (pX np rs).1 2 = -1 from e)]
      have hne : ¬ (c = 1 ∧ rs = nI w) := fun z => by
        have := z.2
        rw [e, i_eq, i_n (by omega), i_m1] at this
        omega
      rw [if_neg hne]
      exact base
    · have hnm : ¬ (pX np rs).1 2 = -1 := fun z => by
        have z2 : rs = -1 := z
        rw [e, i_eq, i_n (by omega), i_m1] at z2
        omega
      rw [if_neg hnm]
      have eu : ((pX np rs).1 2).toNatClampNeg = u := by show rs.toNatClampNeg = u; rw [e]; exact nI_clamp (by omega)
      rw [eu, at_add (by omega) (by omega), at_add (by omega) (by omega), at_add (by omega) (by omega)]
      have ew : (s_up (srL (sr_0 F (pX np rs)) ah be np) 9 ((pX np rs).1 2)).2 1 2 = F.2 1 2 := by rw [s2]
      rw [ew]
      by_cases h1 : c = 1 ∧ w = u
      · obtain ⟨e1, e2⟩ := h1
        subst e1 e2
        rw [if_pos (show (1 = 1 ∧ w = w) from ⟨rfl, rfl⟩), if_neg (show ¬ (1 = 5 ∧ w = w) from fun z => absurd z.1 (by decide)), if_pos (show (1 = 1 ∧ rs = nI w) from ⟨rfl, e⟩)]
        exact congrArg (· + F.2 1 2) base
      · rw [if_neg h1]
        have hne : ¬ (c = 1 ∧ rs = nI w) := fun z => h1 ⟨z.1, by have := z.2; rw [e, i_eq, i_n (by omega), i_n (by omega)] at this; omega⟩
        rw [if_neg hne, if_neg (fun z => h5 z.1)]
        exact base
  refine ⟨⟨(ei 0 (by decide)).trans a1, a2⟩, ⟨(ei 5 (by decide)).trans rfl, hp6⟩, ⟨?_, by omega⟩, fun w hwn => ?_, fun i j hi hj => ?_, fun i hi => ?_, fun q hq => ?_, fun w hwn => ?_, fun q hq => Or.inl (o6 q hq)⟩
  · rw [ei 1 (by decide)]
    show F.1 1 + 1 = _
    rw [c1]; exact nI_1 r
  · rw [hat 1 w hwn (by decide) (by decide) (by decide) (by decide), hon]
    have z := hpt w hwn
    rw [h0] at z
    have w2 := hw 2 (by omega)
    split
    · have e := add_i (a := F.2 2 (1 * 12 + w)) (c := F.2 1 2) (by omega) (by omega)
      rw [e]
      omega
    · omega
  · rw [e9 3, if_neg (by decide)]
    have := s5 (6 * (r : Int)) (by omega) hm i j hi hj
    omega
  · rw [e9 1, if_neg (by decide), s2]
    exact hw i hi
  · obtain ⟨-, i, j, g1, g2, g3, g4, g5⟩ := s4 q hq
    refine ⟨i, j, ?_, g2, ?_, g4, g5⟩
    · rw [e9 4, if_neg (by decide)]; exact g1
    · rw [e9 5, if_neg (by decide)]; exact g3
  · rw [hat 8 w hwn (by decide) (by decide) (by decide) (by decide), if_neg (fun z => absurd z.1 (by decide))]
    exact hin w hwn
end XVA
