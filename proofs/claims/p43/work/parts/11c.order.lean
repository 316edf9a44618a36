/-! THE ORDER: lists that stand in order -/
section XXO
/-- who stands ahead -/
def ahd (pts mp str : Nat → Int32) (a b : Nat) : Bool := if pts a = pts b then (if mp a = mp b then (if str a = str b then decide (a < b) else decide (str b < str a)) else decide (mp b < mp a)) else decide (pts b < pts a)
/-- a strict total order below m -/
def sto (R : Nat → Nat → Bool) : Prop := (∀ a b, a ≠ b → R a b = true ∨ R b a = true) ∧ (∀ a b c, R a b = true → R b c = true → R a c = true) ∧ ∀ a, R a a = false
theorem ahd_sto (pts mp str : Nat → Int32) : sto (ahd pts mp str) := by
  refine ⟨fun a b h => ?_, fun a b c => ?_, fun a => ?_⟩
  · unfold ahd
    by_cases h1 : pts a = pts b
    · rw [if_pos h1, if_pos h1.symm]
      by_cases h2 : mp a = mp b
      · rw [if_pos h2, if_pos h2.symm]
        by_cases h3 : str a = str b
        · rw [if_pos h3, if_pos h3.symm]
          simp only [decide_eq_true_eq]
          omega
        · rw [if_neg h3, if_neg (Ne.symm h3)]
          simp only [decide_eq_true_eq, i_lt]
          rw [i_eq] at h3
          omega
      · rw [if_neg h2, if_neg (Ne.symm h2)]
        simp only [decide_eq_true_eq, i_lt]
        rw [i_eq] at h2
        omega
    · rw [if_neg h1, if_neg (Ne.symm h1)]
      simp only [decide_eq_true_eq, i_lt]
      rw [i_eq] at h1
      omega
  · unfold ahd
    simp only [i_eq]
    intro h1 h2
    repeat' split at h1
    all_goals repeat' split at h2
    all_goals repeat' split
    all_goals simp only [decide_eq_true_eq, i_lt] at *
    all_goals omega
  · unfold ahd
    simp
/-- the first i places of o hold the numbers below i in the order R -/
def ordOf (R : Nat → Nat → Bool) (i : Nat) (o : Nat → Int32) (ls : List Nat) : Prop := ls.Perm (List.range i) ∧ ls.Pairwise (fun a b => R a b = true) ∧ ∀ p, p < i → o p = nI (ls.getD p 0)
theorem ordOf.len {R : Nat → Nat → Bool} {i : Nat} {o : Nat → Int32} {ls : List Nat} (h : ordOf R i o ls) : ls.length = i := by
  have := h.1.length_eq
  rwa [List.length_range] at this
theorem ordOf.lt {R : Nat → Nat → Bool} {i : Nat} {o : Nat → Int32} {ls : List Nat} (h : ordOf R i o ls) {p : Nat} (hp : p < i) : ls.getD p 0 < i := by
  have hl := h.len
  have hm : ls.getD p 0 ∈ ls := by
    rw [List.getD_eq_getElem?_getD, List.getElem?_eq_getElem (by omega)]
    exact List.getElem_mem _
  exact List.mem_range.mp (h.1.mem_iff.mp hm)
theorem getD_at {ls : List Nat} {p : Nat} (h : p < ls.length) : ls.getD p 0 = ls[p] := by
  rw [List.getD_eq_getElem?_getD, List.getElem?_eq_getElem h]
  rfl
/-- i is put in at place p -/
theorem ordOf.ins {R : Nat → Nat → Bool} (hR : sto R) {i p : Nat} {o o1 : Nat → Int32} {ls : List Nat} (h : ordOf R i o ls) (hp : p ≤ i) (h1 : ∀ q, q < p → o1 q = nI (ls.getD q 0)) (h2 : ∀ q, p ≤ q → q < i → o1 (q + 1) = nI (ls.getD q 0) ∧ R i (ls.getD q 0) = true) (h3 : p = 0 ∨ ¬ R i (ls.getD (p - 1) 0) = true) (hv : o1 p = nI i) : ordOf R (i + 1) o1 (ls.take p ++ i :: ls.drop p) := by
  have hl := h.len
  have hlt := @ordOf.lt _ _ _ _ h
  obtain ⟨g1, g2, g3⟩ := h
  have hin : ∀ x ∈ ls, x < i := fun x hx => List.mem_range.mp (g1.mem_iff.mp hx)
  have hsp : ls = ls.take p ++ ls.drop p := (List.take_append_drop p ls).symm
  have hpw : (ls.take p ++ ls.drop p).Pairwise (fun a b => R a b = true) := by rw [← hsp]; exact g2
  obtain ⟨w1, w2, w3⟩ := List.pairwise_append.mp hpw
  have hd : ∀ x ∈ ls.drop p, R i x = true := by
    intro x hx
    obtain ⟨q, hq, rfl⟩ := List.getElem_of_mem hx
    rw [List.length_drop] at hq
    rw [List.getElem_drop]
    have := (h2 (p + q) (by omega) (by omega)).2
    rw [getD_at (by omega)] at this
    exact this
  have ht : ∀ x ∈ ls.take p, R x i = true := by
    intro x hx
    obtain ⟨q, hq, rfl⟩ := List.getElem_of_mem hx
    rw [List.length_take] at hq
    rw [List.getElem_take]
    have hp0 : 0 < p := by omega
    have hlast : R (ls[p - 1]'(by omega)) i = true := by
      have h3' := h3.resolve_left (by omega)
      rw [getD_at (by omega)] at h3'
      have hne : ls[p - 1]'(by omega) ≠ i := Nat.ne_of_lt (hin _ (List.getElem_mem _))
      exact (hR.1 _ _ hne).resolve_right h3'
    by_cases hq1 : q = p - 1
    · subst hq1; exact hlast
    · have := (List.pairwise_iff_getElem.mp g2) q (p - 1) (by omega) (by omega) (by omega)
      exact hR.2.1 _ _ _ this hlast
  refine ⟨?_, ?_, ?_⟩
  · have e1 : (ls.take p ++ i :: ls.drop p).Perm (i :: (ls.take p ++ ls.drop p)) := List.perm_middle
    rw [List.take_append_drop] at e1
    rw [List.range_succ]
    exact e1.trans ((g1.cons i).trans (List.perm_append_singleton i (List.range i)).symm)
  · rw [List.pairwise_append]
    refine ⟨w1, List.pairwise_cons.mpr ⟨hd, w2⟩, fun a ha b hb => ?_⟩
    rcases List.mem_cons.mp hb with rfl | hb
    · exact ht a ha
    · exact w3 a ha b hb
  · intro q hq
    have htl : (ls.take p).length = p := by rw [List.length_take]; omega
    rcases Nat.lt_trichotomy q p with c | c | c
    · rw [h1 q c, List.getD_eq_getElem?_getD, List.getD_eq_getElem?_getD, List.getElem?_append_left (by omega), List.getElem?_take, if_pos c]
    · subst c
      rw [hv, List.getD_eq_getElem?_getD, List.getElem?_append_right (by omega), htl, Nat.sub_self]
      rfl
    · obtain ⟨z, rfl⟩ : ∃ z, q = z + 1 := ⟨q - 1, by omega⟩
      rw [(h2 z (by omega) (by omega)).1, List.getD_eq_getElem?_getD, List.getD_eq_getElem?_getD, List.getElem?_append_right (by omega), htl, show z + 1 - p = (z - p) + 1 by omega, List.getElem?_cons_succ, List.getElem?_drop, show p + (z - p) = z by omega]
/-- how many stand ahead of the one at place p: p -/
theorem ordOf.rank {R : Nat → Nat → Bool} (hR : sto R) {i : Nat} {o : Nat → Int32} {ls : List Nat} (h : ordOf R i o ls) {p : Nat} (hp : p < i) : (List.range i).countP (fun a => R a (ls.getD p 0)) = p := by
  have hl := h.len
  rw [← h.1.countP_eq, getD_at (by omega)]
  have hsp : ls = ls.take p ++ ls.drop p := (List.take_append_drop p ls).symm
  have hg := List.pairwise_iff_getElem.mp h.2.1
  have e1 : (ls.take p).countP (fun a => R a (ls[p]'(by omega))) = p := by
    have : (ls.take p).countP (fun a => R a (ls[p]'(by omega))) = (ls.take p).length := by
      rw [List.countP_eq_length]
      intro x hx
      obtain ⟨q, hq, rfl⟩ := List.getElem_of_mem hx
      rw [List.length_take] at hq
      rw [List.getElem_take]
      exact hg q p (by omega) (by omega) (by omega)
    rw [this, List.length_take]
    omega
  have e2 : (ls.drop p).countP (fun a => R a (ls[p]'(by omega))) = 0 := by
    rw [List.countP_eq_zero]
    intro x hx hr
    obtain ⟨q, hq, rfl⟩ := List.getElem_of_mem hx
    rw [List.length_drop] at hq
    rw [List.getElem_drop] at hr
    by_cases hq0 : q = 0
    · subst hq0
      simp only [Nat.add_zero] at hr
      rw [hR.2.2] at hr
      cases hr
    · have := hg p (p + q) (by omega) (by omega) (by omega)
      have h9 := hR.2.1 _ _ _ this hr
      rw [hR.2.2] at h9
      cases h9
  have e3 : ls.countP (fun a => R a (ls[p]'(by omega))) = (ls.take p ++ ls.drop p).countP (fun a => R a (ls[p]'(by omega))) := by rw [List.take_append_drop]
  rw [e3, List.countP_append, e1, e2]
  rfl
end XXO
