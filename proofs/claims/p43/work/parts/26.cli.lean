/-! READER: what it holds behind some lines -/
section XCI
abbrev RuL : Type := List (Int32 × List (Int32 × Int32))
def flatR (rs : RuL) : List (Int32 × Int32) := rs.flatMap (fun q => q.2)
/-- rules that hold rs -/
def rlI (rs : RuL) (R : xS) : Prop := R.1 0 = nI (min rs.length 16) ∧ R.1 3 = nI (flatR rs).length ∧ (∀ p, p < (flatR rs).length → R.2 3 p = ((flatR rs).getD p (0, 0)).1 ∧ R.2 4 p = ((flatR rs).getD p (0, 0)).2) ∧ ∀ i, i < rs.length → i < 16 → R.2 1 i = (rs.getD i (0, [])).1 ∧ R.2 2 i = nI (flatR (rs.take (i + 1))).length
variable {D D' T R R' T0 : xS} {len tok k : Nat}
theorem flatR_app (a c : RuL) : flatR (a ++ c) = flatR a ++ flatR c := List.flatMap_append
theorem emL_i : ∀ (em : List (Int32 × Int32)) {R : xS} {m : Nat}, R.1 3 = nI m → m + em.length < 2 ^ 31 → (emL R em).2 1 = R.2 1 ∧ (emL R em).2 2 = R.2 2 ∧ (∀ p, p < m → (emL R em).2 3 p = R.2 3 p ∧ (emL R em).2 4 p = R.2 4 p) ∧ ∀ j, j < em.length → (emL R em).2 3 (m + j) = (em.getD j (0, 0)).1 ∧ (emL R em).2 4 (m + j) = (em.getD j (0, 0)).2 := by
  intro em
  induction em with
  | nil => intro R m h1 h2; exact ⟨rfl, rfl, fun p hp => ⟨rfl, rfl⟩, fun j hj => absurd hj (Nat.not_lt_zero j)⟩
  | cons q em ih =>
    intro R m h1 h2
    simp only [List.length_cons] at h2
    have c : (R.1 3).toNatClampNeg = m := by rw [h1]; exact nI_clamp (by omega)
    obtain ⟨k1, k2, k3, k4⟩ := ih (R := emS R q) (m := m + 1) (emS_3 h1 q) (by omega)
    have e3 : (emS R q).2 3 = upd (R.2 3) m q.1 := by
      show upd (R.2 3) (R.1 3).toNatClampNeg q.1 = _
      rw [c]
    have e4 : (emS R q).2 4 = upd (R.2 4) m q.2 := by
      show upd (R.2 4) (R.1 3).toNatClampNeg q.2 = _
      rw [c]
    refine ⟨k1, k2, fun p hp => ?_, fun j hj => ?_⟩
    · have := k3 p (by omega)
      rw [e3, e4] at this
      simp only [upd] at this
      rw [if_neg (by omega), if_neg (by omega)] at this
      exact this
    · cases j with
      | zero =>
        have := k3 m (by omega)
        rw [e3, e4] at this
        simp only [upd, if_true] at this
        exact this
      | succ j =>
        simp only [List.length_cons] at hj
        have := k4 j (by omega)
        rw [show m + (j + 1) = m + 1 + j by omega]
        exact this
theorem getD_app1 {α : Type} {a c : List α} {d : α} {i : Nat} (h : i < a.length) : (a ++ c).getD i d = a.getD i d := by
  simp [List.getD, List.getElem?_append_left h]
theorem getD_app2 {α : Type} {a c : List α} {d : α} {i : Nat} : (a ++ c).getD (a.length + i) d = c.getD i d := by
  simp [List.getD, List.getElem?_append_right (Nat.le_add_right _ _)]
/-- the steps of one rule more -/
theorem rlI_em {rs : RuL} (h : rlI rs R) (hl : (flatR rs).length ≤ 2000) (em : List (Int32 × Int32)) (he : em.length ≤ 2000) : (emL R em).1 0 = nI (min rs.length 16) ∧ (emL R em).1 3 = nI (flatR rs ++ em).length ∧ (∀ p, p < (flatR rs ++ em).length → (emL R em).2 3 p = ((flatR rs ++ em).getD p (0, 0)).1 ∧ (emL R em).2 4 p = ((flatR rs ++ em).getD p (0, 0)).2) ∧ (emL R em).2 1 = R.2 1 ∧ (emL R em).2 2 = R.2 2 := by
  obtain ⟨h1, h2, h3, h4⟩ := h
  obtain ⟨k1, k2, k3, k4⟩ := emL_i em h2 (by omega)
  refine ⟨(emL_0 em).trans h1, ?_, fun p hp => ?_, k1, k2⟩
  · rw [emL_3 em h2, List.length_append]
  · rw [List.length_append] at hp
    by_cases hq : p < (flatR rs).length
    · rw [getD_app1 hq, (k3 p hq).1, (k3 p hq).2]
      exact h3 p hq
    · have := k4 (p - (flatR rs).length) (by omega)
      rw [show (flatR rs).length + (p - (flatR rs).length) = p by omega] at this
      have e : (flatR rs ++ em).getD p (0, 0) = em.getD (p - (flatR rs).length) (0, 0) := by
        conv => lhs; rw [show p = (flatR rs).length + (p - (flatR rs).length) by omega]
        exact getD_app2
      rw [e]
      exact this
theorem rlI_add {rs : RuL} (h : rlI rs R) (hl : (flatR rs).length ≤ 2000) {em : List (Int32 × Int32)} (he : em.length ≤ 2000) {oc : Int32} (hR1 : min rs.length 16 < 16 → R' = erF (emL R em) (min rs.length 16) oc) (hR2 : min rs.length 16 = 16 → R' = emL R em) : rlI (rs ++ [(oc, em)]) R' := by
  obtain ⟨k1, k2, k3, k4, k5⟩ := rlI_em h hl em he
  obtain ⟨h1, h2, h3, h4⟩ := h
  have ef : flatR (rs ++ [(oc, em)]) = flatR rs ++ em := by rw [flatR_app]; simp [flatR]
  have old : ∀ i, i < rs.length → ((rs ++ [(oc, em)]).getD i (0, [])) = rs.getD i (0, []) ∧ flatR ((rs ++ [(oc, em)]).take (i + 1)) = flatR (rs.take (i + 1)) := fun i hi => ⟨getD_app1 hi, by rw [List.take_append_of_le_length (by omega)]⟩
  by_cases hr : rs.length < 16
  · have e := hR1 (by omega)
    rw [show min rs.length 16 = rs.length by omega] at e
    subst e
    refine ⟨?_, ?_, ?_, fun i hi h16 => ?_⟩
    · show (emL R em).1 0 + 1 = _
      rw [k1, nI_1, List.length_append, List.length_singleton]
      congr 1
      omega
    · rw [ef]; exact k2
    · rw [ef]; exact k3
    · rw [List.length_append, List.length_singleton] at hi
      show upd ((emL R em).2 1) rs.length oc i = _ ∧ upd ((emL R em).2 2) rs.length ((emL R em).1 3) i = _
      simp only [upd]
      by_cases hq : i = rs.length
      · subst hq
        rw [if_pos rfl, if_pos rfl, k2, List.take_of_length_le (by simp), ef]
        refine ⟨?_, rfl⟩
        exact congrArg Prod.fst (getD_app2 (a := rs) (c := [(oc, em)]) (d := ((0 : Int32), ([] : List (Int32 × Int32)))) (i := 0)).symm
      · rw [if_neg hq, if_neg hq, (old i (by omega)).1, (old i (by omega)).2, k4, k5]
        exact h4 i (by omega) h16
  · have e := hR2 (by omega)
    subst e
    refine ⟨?_, ?_, ?_, fun i hi h16 => ?_⟩
    · rw [k1, List.length_append]; congr 1; omega
    · rw [ef]; exact k2
    · rw [ef]; exact k3
    · rw [(old i (by omega)).1, (old i (by omega)).2, k4, k5]
      exact h4 i (by omega) h16
def posT (T0 : xS) (len t : Nat) : Int32 := nI (scS T0 len t)
abbrev chkT (T0 : xS) (len : Nat) (its : List (Nat × Nat)) : Told := chkL (samB T0 len) (tkN T0 len) (posT T0 len) its
/-- a Reader behind the lines that tell its and rs -/
def clI (T0 : xS) (len tok : Nat) (its : List (Nat × Nat)) (rs : RuL) (D R : xS) : Prop :=
  D.1 5 = nI (min (chkT T0 len its).1.length 12) ∧ (∀ i, i < (chkT T0 len its).1.length → i < 12 → D.2 13 i = nI ((chkT T0 len its).1.getD i (0, 0)).1 ∧ D.2 12 i = ((chkT T0 len its).1.getD i (0, 0)).2) ∧ (∀ i, i < (chkT T0 len its).1.length → ((chkT T0 len its).1.getD i (0, 0)).1 < tok) ∧ (∀ i, i < 3 → D.2 14 i = (chkT T0 len its).2.2.1 i) ∧ (D.1 7, D.1 8) = (chkT T0 len its).2.2.2.2 ∧ (chkT T0 len its).2.2.2.1 = rs.length ∧ rlI rs R
theorem chkT_app (a c : List (Nat × Nat)) : chkT T0 len (a ++ c) = c.foldl (chkS (samB T0 len) (tkN T0 len) (posT T0 len)) (chkT T0 len a) := List.foldl_append
theorem dup_eq {L : List (Nat × Int32)} {t : Nat} : ∀ j, j ≤ L.length → dupN T0 len (fun i => (L.getD i (0, 0)).1) t j = (L.take j).any (fun q => samB T0 len q.1 t) := by
  intro j
  induction j with
  | zero => intro _; rfl
  | succ j ih =>
    intro hj
    show (dupN T0 len _ t j || samB T0 len (L.getD j (0, 0)).1 t) = _
    rw [ih (by omega), List.take_succ_eq_append_getElem (by omega), List.any_append]
    simp [List.getD, List.getElem?_eq_getElem (show j < L.length by omega)]
theorem dup_K {L : List (Nat × Int32)} {t : Nat} : dupN T0 len (fun i => (L.getD i (0, 0)).1) t (min L.length 12) = dupK (samB T0 len) L t := by
  rw [dup_eq _ (by omega)]
  unfold dupK
  by_cases h : L.length ≤ 12
  · rw [show min L.length 12 = L.length by omega, List.take_of_length_le (Nat.le_refl _), List.take_of_length_le h]
  · rw [show min L.length 12 = 12 by omega]
theorem clI_wrs {its : List (Nat × Nat)} {rs : RuL} (h : clI T0 len tok its rs D R) (hk : k < tok) (hR : R' = R) (h14 : D'.2 14 = D.2 14) {p0 p2 : Int32} (hp0 : p0 = posT T0 len k) (hp2 : p2 = posT T0 len (k + 2))
    (hE : (D'.1 7, D'.1 8) = noteC (noteC (D.1 7, D.1 8) (if dupN T0 len (fun i => ((chkT T0 len its).1.getD i (0, 0)).1) k (min (chkT T0 len its).1.length 12) = true then 2 else if min (chkT T0 len its).1.length 12 = 12 then 4 else 0) p0) (if (tkN T0 len (k + 2)) < 1 ∨ 999 < (tkN T0 len (k + 2)) then 5 else 0) p2)
    (h1 : min (chkT T0 len its).1.length 12 < 12 → D'.1 5 = nI (min (chkT T0 len its).1.length 12 + 1) ∧ D'.2 13 = upd (D.2 13) (min (chkT T0 len its).1.length 12) (nI k) ∧ D'.2 12 = upd (D.2 12) (min (chkT T0 len its).1.length 12) (tkN T0 len (k + 2)))
    (h2 : min (chkT T0 len its).1.length 12 = 12 → D'.1 5 = nI 12 ∧ D'.2 = D.2) : clI T0 len tok (its ++ [(k, 1), (k + 2, 3)]) rs D' R' := by
  subst hR hp0 hp2
  obtain ⟨a1, a2, a3, a4, a5, a6, a7⟩ := h
  unfold clI
  rw [chkT_app]
  obtain ⟨s, hs⟩ : ∃ s, s = chkT T0 len its := ⟨_, rfl⟩
  rw [← hs] at a1 a2 a3 a4 a5 a6 hE h1 h2 ⊢
  show D'.1 5 = nI (min (s.1 ++ [(k, tkN T0 len (k + 2))]).length 12) ∧ (∀ i, i < (s.1 ++ [(k, tkN T0 len (k + 2))]).length → i < 12 → D'.2 13 i = nI ((s.1 ++ [(k, tkN T0 len (k + 2))]).getD i (0, 0)).1 ∧ D'.2 12 i = ((s.1 ++ [(k, tkN T0 len (k + 2))]).getD i (0, 0)).2) ∧ (∀ i, i < (s.1 ++ [(k, tkN T0 len (k + 2))]).length → ((s.1 ++ [(k, tkN T0 len (k + 2))]).getD i (0, 0)).1 < tok) ∧ (∀ i, i < 3 → D'.2 14 i = s.2.2.1 i) ∧ (D'.1 7, D'.1 8) = noteC (noteC s.2.2.2.2 (if dupK (samB T0 len) s.1 k = true then 2 else if 12 ≤ s.1.length then 4 else 0) (posT T0 len k)) (if tkN T0 len (k + 2) < 1 ∨ 999 < tkN T0 len (k + 2) then 5 else 0) (posT T0 len (k + 2)) ∧ s.2.2.2.1 = rs.length ∧ rlI rs R'
  have last : (s.1 ++ [(k, tkN T0 len (k + 2))]).getD s.1.length (0, 0) = (k, tkN T0 len (k + 2)) := by
    exact (getD_app2 (a := s.1) (c := [(k, tkN T0 len (k + 2))]) (d := (0, 0)) (i := 0)).trans rfl
  refine ⟨?_, fun i hi h12 => ?_, fun i hi => ?_, fun i hi => by rw [h14]; exact a4 i hi, ?_, a6, a7⟩
  · rw [List.length_append, List.length_singleton]
    by_cases hl : s.1.length < 12
    · rw [(h1 (by omega)).1]; congr 1; omega
    · rw [(h2 (by omega)).1]; congr 1; omega
  · rw [List.length_append, List.length_singleton] at hi
    by_cases hl : s.1.length < 12
    · obtain ⟨-, e1, e2⟩ := h1 (by omega)
      rw [e1, e2, show min s.1.length 12 = s.1.length by omega]
      simp only [upd]
      by_cases hq : i = s.1.length
      · subst hq
        rw [if_pos rfl, if_pos rfl, last]
        exact ⟨rfl, rfl⟩
      · rw [if_neg hq, if_neg hq, getD_app1 (by omega)]
        exact a2 i (by omega) h12
    · rw [(h2 (by omega)).2, getD_app1 (by omega)]
      exact a2 i (by omega) h12
  · rw [List.length_append, List.length_singleton] at hi
    by_cases hq : i = s.1.length
    · subst hq; rw [last]; exact hk
    · rw [getD_app1 (by omega)]; exact a3 i (by omega)
  · rw [hE, a5, dup_K]
    have e : (if min s.1.length 12 = 12 then (4 : Int32) else 0) = if 12 ≤ s.1.length then 4 else 0 := by
      by_cases hl : 12 ≤ s.1.length
      · rw [if_pos hl, if_pos (by omega)]
      · rw [if_neg hl, if_neg (by omega)]
    rw [e]
theorem clI_pts {its : List (Nat × Nat)} {rs : RuL} (h : clI T0 len tok its rs D R) (hR : R' = R) {p0 p1 p2 : Int32} (hp0 : p0 = posT T0 len k) (hp1 : p1 = posT T0 len (k + 1)) (hp2 : p2 = posT T0 len (k + 2)) (h5 : D'.1 5 = D.1 5) (h12 : D'.2 12 = D.2 12) (h13 : D'.2 13 = D.2 13) (h14 : D'.2 14 = upd (upd (upd (D.2 14) 0 (tkN T0 len k)) 1 (tkN T0 len (k + 1))) 2 (tkN T0 len (k + 2)))
    (hE : (D'.1 7, D'.1 8) = noteC (noteC (noteC (D.1 7, D.1 8) (if (tkN T0 len k) < 0 ∨ 9 < (tkN T0 len k) then 5 else 0) p0) (if (tkN T0 len (k + 1)) < 0 ∨ 9 < (tkN T0 len (k + 1)) then 5 else 0) p1) (if (tkN T0 len (k + 2)) < 0 ∨ 9 < (tkN T0 len (k + 2)) then 5 else 0) p2) : clI T0 len tok (its ++ [(k, 4), (k + 1, 5), (k + 2, 6)]) rs D' R' := by
  subst hR hp0 hp1 hp2
  obtain ⟨a1, a2, a3, a4, a5, a6, a7⟩ := h
  unfold clI
  rw [chkT_app]
  refine ⟨h5.trans a1, fun i hi hj => by rw [h12, h13]; exact a2 i hi hj, a3, fun i hi => ?_, ?_, a6, a7⟩
  · rw [h14]
    show _ = upd (upd (upd (chkT T0 len its).2.2.1 0 (tkN T0 len k)) 1 (tkN T0 len (k + 1))) 2 (tkN T0 len (k + 2)) i
    simp only [upd]
    split
    · rfl
    split
    · rfl
    split
    · rfl
    · exact a4 i hi
  · rw [hE, a5]; rfl
theorem clI_rul {its : List (Nat × Nat)} {rs : RuL} (h : clI T0 len tok its rs D R) (hl : (flatR rs).length ≤ 2000) {em : List (Int32 × Int32)} (he : em.length ≤ 2000) {oc p0 : Int32} (hp0 : p0 = posT T0 len k) (h5 : D'.1 5 = D.1 5) (h2 : D'.2 = D.2) (hE : (D'.1 7, D'.1 8) = noteC (D.1 7, D.1 8) (if min rs.length 16 = 16 then 4 else 0) p0) (hR1 : min rs.length 16 < 16 → R' = erF (emL R em) (min rs.length 16) oc) (hR2 : min rs.length 16 = 16 → R' = emL R em) : clI T0 len tok (its ++ [(k, 2)]) (rs ++ [(oc, em)]) D' R' := by
  subst hp0
  obtain ⟨a1, a2, a3, a4, a5, a6, a7⟩ := h
  unfold clI
  rw [chkT_app]
  refine ⟨h5.trans a1, fun i hi hj => by rw [h2]; exact a2 i hi hj, a3, fun i hi => by rw [h2]; exact a4 i hi, ?_, ?_, rlI_add a7 hl he hR1 hR2⟩
  · rw [hE, a5]
    show _ = noteC _ (if 16 ≤ (chkT T0 len its).2.2.2.1 then 4 else 0) _
    rw [a6]
    have e : (if min rs.length 16 = 16 then (4 : Int32) else 0) = if 16 ≤ rs.length then 4 else 0 := by
      by_cases hl : 16 ≤ rs.length
      · rw [if_pos hl, if_pos (by omega)]
      · rw [if_neg hl, if_neg (by omega)]
    rw [e]
  · show (chkT T0 len its).2.2.2.1 + 1 = _
    rw [a6, List.length_append, List.length_singleton]
theorem clI_0 (h5 : D.1 5 = 0) (h7 : D.1 7 = 0) (h8 : D.1 8 = -1) (w0 : D.2 14 0 = 2) (w1 : D.2 14 1 = 1) (w2 : D.2 14 2 = 2) (r0 : R.1 0 = 0) (r3 : R.1 3 = 0) : clI T0 len tok [] [] D R := by
  refine ⟨h5, fun i hi => absurd hi (Nat.not_lt_zero i), fun i hi => absurd hi (Nat.not_lt_zero i), fun i hi => ?_, by rw [h7, h8]; rfl, rfl, r0, r3, fun i hi => absurd hi (Nat.not_lt_zero i), fun i hi => absurd hi (Nat.not_lt_zero i)⟩
  show _ = if i = 1 then 1 else 2
  have : i = 0 ∨ i = 1 ∨ i = 2 := by omega
  rcases this with rfl | rfl | rfl
  · exact w0
  · exact w1
  · exact w2
/-- what read answers, and where the error is -/
def rdV (T0 : xS) (len : Nat) : Int32 × Int32 := if (bokW (scG T0 len) (tkN T0 len) 401 0 [] []).1 = true then (chkT T0 len (bokW (scG T0 len) (tkN T0 len) 401 0 [] []).2.2.1).2.2.2.2 else (1, posT T0 len (bokW (scG T0 len) (tkN T0 len) 401 0 [] []).2.1)
end XCI
