/-! THE TIE OF THE RULES: a class's Rules and a Plan -/
section XRU
variable {S P F F' R R1 : xS} {T : xS} {len tok i j k q s e t d m nw nb n r mt : Nat} {em : List (Int32 × Int32)} {rs : RuL} {nl : Nat → Int64}
def bgL (rs : RuL) (r : Nat) : Nat := (flatR (rs.take r)).length
def rsE (rs : RuL) (r : Nat) : List (Int32 × Int32) := (rs.getD r (0, [])).2
theorem rt_cut (h : r < rs.length) : flatR rs = flatR (rs.take r) ++ (rsE rs r ++ flatR (rs.drop (r + 1))) := by
  conv => lhs; rw [← List.take_append_drop r rs, flatR_app, List.drop_eq_getElem_cons h]
  unfold rsE
  rw [List.getD_eq_getElem?_getD, List.getElem?_eq_getElem h]
  rfl
theorem bgL_s (h : r < rs.length) : bgL rs (r + 1) = bgL rs r + (rsE rs r).length := by
  unfold bgL
  rw [List.take_succ_eq_append_getElem h, flatR_app, List.length_append]
  unfold rsE
  rw [List.getD_eq_getElem?_getD, List.getElem?_eq_getElem h]
  simp [flatR]
theorem bgL_le (h : r < rs.length) : bgL rs (r + 1) ≤ (flatR rs).length := by
  rw [bgL_s h]
  have := congrArg List.length (rt_cut h)
  simp only [List.length_append] at this
  unfold bgL
  omega
theorem bgL_b : bgn (fun r => bgL rs (r + 1)) r = bgL rs r := by
  unfold bgn
  split
  · rename_i h; subst h; rfl
  · show bgL rs (r - 1 + 1) = _
    rw [show r - 1 + 1 = r by omega]
theorem rt_at (h : r < rs.length) (hq : q < (rsE rs r).length) : (flatR rs).getD (bgL rs r + q) (0, 0) = (rsE rs r).getD q (0, 0) := by
  rw [rt_cut h]
  refine (getD_app2 (a := flatR (rs.take r))).trans ?_
  exact getD_app1 hq
theorem rs_mem (h : r < rs.length) : rs.getD r (0, []) ∈ rs := by
  rw [List.getD_eq_getElem?_getD, List.getElem?_eq_getElem h]
  exact List.getElem_mem h
theorem runR_sm : ∀ (em : List (Int32 × Int32)) (p : Nat) (u : List Int32), (∀ q, q < em.length → P.2 7 (p + q) = trO (em.getD q (0, 0)).1 (em.getD q (0, 0)).2 ∧ P.2 8 (p + q) = trW (em.getD q (0, 0)).1 (em.getD q (0, 0)).2) → runR S P i j em.length p u = smR S P i j em u := by
  intro em
  induction em with
  | nil => intro p u _; rfl
  | cons x em ih =>
    intro p u h
    have h0 := h 0 (by simp)
    show (stW S P i j (P.2 7 p) (P.2 8 p) u).bind (runR S P i j em.length (p + 1)) = (stW S P i j (trO x.1 x.2) (trW x.1 x.2) u).bind (smR S P i j em)
    rw [show P.2 7 p = trO x.1 x.2 from h0.1, show P.2 8 p = trW x.1 x.2 from h0.2]
    congr 1
    funext w
    refine ih (p + 1) w (fun q hq => ?_)
    have := h (q + 1) (by simp only [List.length_cons]; omega)
    rw [show p + 1 + q = p + (q + 1) by omega]
    exact this
theorem runL_sm {ops xs : Nat → Int32} : ∀ (em : List (Int32 × Int32)) (p : Nat) (u : List Int32), (∀ q, q < em.length → ops (p + q) = (em.getD q (0, 0)).1 ∧ xs (p + q) = (em.getD q (0, 0)).2) → runL F i j ops xs em.length p u = smL F i j em u := by
  intro em
  induction em with
  | nil => intro p u _; rfl
  | cons x em ih =>
    intro p u h
    have h0 := h 0 (by simp)
    show runL F i j ops xs em.length (p + 1) (stepL F i j (ops p) (xs p) u) = smL F i j em (stepL F i j x.1 x.2 u)
    rw [show ops p = x.1 from h0.1, show xs p = x.2 from h0.2]
    refine ih (p + 1) _ (fun q hq => ?_)
    have := h (q + 1) (by simp only [List.length_cons]; omega)
    rw [show p + 1 + q = p + (q + 1) by omega]
    exact this
theorem step_c {op x : Int32} {u : List Int32} (hs : stOK op x) (h : eqF nw nb F F') (hi : i < nw) (hj : j < nw) : stepL F i j op x u = stepL F' i j op x u := by
  unfold stepL
  split
  · rfl
  · rw [h.1.2.1]
  · rename_i c
    obtain ⟨q0, hq, e⟩ := hs (Or.inl (Int32.toInt_inj.mp c))
    rw [e, nI_clamp (by omega), h.2.2.1 q0 i hq hi]
  · rename_i c
    obtain ⟨q0, hq, e⟩ := hs (Or.inr (Int32.toInt_inj.mp c))
    rw [e, nI_clamp (by omega), h.2.2.1 q0 j hq hj]
  · rw [h.2.2.2.1 i j hi hj]
  · rfl
  · rfl
  · rfl
theorem runL_c {ops xs : Nat → Int32} (h : eqF nw nb F F') (hi : i < nw) (hj : j < nw) : ∀ d p (u : List Int32), (∀ q, q < p + d → stOK (ops q) (xs q)) → runL F i j ops xs d p u = runL F' i j ops xs d p u := by
  intro d
  induction d with
  | zero => intro p u _; rfl
  | succ d ih =>
    intro p u hs
    show runL F i j ops xs d (p + 1) (stepL F i j (ops p) (xs p) u) = runL F' i j ops xs d (p + 1) (stepL F' i j (ops p) (xs p) u)
    rw [step_c (hs p (by omega)) h hi hj]
    exact ih (p + 1) _ (fun q hq => hs q (by omega))
/-- what a class's Rules hold behind copyFrom -/
def rzI (rs : RuL) (Z : xS) : Prop := Z.1 0 = nI rs.length ∧ (∀ r, r < rs.length → Z.2 1 r = (rs.getD r (0, [])).1 ∧ Z.2 2 r = nI (bgL rs (r + 1))) ∧ ∀ p, p < (flatR rs).length → Z.2 3 p = ((flatR rs).getD p (0, 0)).1 ∧ Z.2 4 p = ((flatR rs).getD p (0, 0)).2
theorem rz_cpy (h : rlI rs R1) (h16 : rs.length ≤ 16) (h4 : (flatR rs).length ≤ 400) : rzI rs (cpyR R R1) := by
  obtain ⟨h1, h2, h3, h5⟩ := h
  refine ⟨?_, fun r hr => ?_, fun p hp => ?_⟩
  · show R1.1 0 = _
    rw [h1, show min rs.length 16 = rs.length by omega]
  · have := h5 r hr (by omega)
    show cpa (R1.2 1) (R.2 1) 16 r = _ ∧ cpa (R1.2 2) (R.2 2) 16 r = _
    rw [cpa_lt (n := 16) rfl (by omega), cpa_lt (n := 16) rfl (by omega)]
    exact this
  · have := h3 p hp
    show cpa (R1.2 3) (R.2 3) 400 p = _ ∧ cpa (R1.2 4) (R.2 4) 400 p = _
    rw [cpa_lt (n := 400) rfl (by omega), cpa_lt (n := 400) rfl (by omega)]
    exact this
theorem st_ok {Z : xS} (hz : rzI rs Z) (hv : ruV rs) {p : Nat} (hp : p < (flatR rs).length) : stOK (Z.2 3 p) (Z.2 4 p) := by
  obtain ⟨e1, e2⟩ := hz.2.2 p hp
  rw [e1, e2]
  have hm : (flatR rs).getD p (0, 0) ∈ flatR rs := by
    rw [List.getD_eq_getElem?_getD, List.getElem?_eq_getElem hp]
    exact List.getElem_mem hp
  obtain ⟨y, hy, hx⟩ := List.mem_flatMap.mp hm
  rcases (hv y hy).2 with z | z
  · rw [z] at hx; exact absurd hx List.not_mem_nil
  · exact z.1 _ hx
theorem hold_L {Z : xS} (hz : rzI rs Z) (hr : r < rs.length) : hldB F i j Z (bgL rs r) (bgL rs (r + 1)) = (decide ((rsE rs r).length = 0) || decide (¬ (smL F i j (rsE rs r) []).headD 0 = 0)) := by
  have e := bgL_s hr
  have l := bgL_le hr
  unfold hldB
  rw [e, Nat.add_sub_cancel_left, runL_sm (rsE rs r) (bgL rs r) [] (fun q hq => by
    have := hz.2.2 (bgL rs r + q) (by omega)
    rw [rt_at hr hq] at this
    exact this)]
  congr 1
  exact decide_eq_decide.mpr (by omega)
theorem outL_v {Z : xS} (hz : rzI rs Z) (hv : ruV rs) {en : Nat → Nat} : ∀ d r f, r + d = rs.length → outL F i j Z en d r f = 0 ∨ outL F i j Z en d r f = 1 ∨ outL F i j Z en d r f = 2 := by
  intro d
  induction d with
  | zero => intro r f _; exact Or.inr (Or.inl rfl)
  | succ d ih =>
    intro r f hr
    simp only [outL]
    split
    · rw [(hz.2.1 r (by omega)).1]
      exact (hv _ (rs_mem (by omega))).1
    · exact ih (r + 1) _ (by omega)
theorem outL_c {Z : xS} (hz : rzI rs Z) (hv : ruV rs) (h : eqF nw nb F F') (hi : i < nw) (hj : j < nw) : ∀ d r, r + d = rs.length → outL F i j Z (fun r => bgL rs (r + 1)) d r (bgL rs r) = outL F' i j Z (fun r => bgL rs (r + 1)) d r (bgL rs r) := by
  intro d
  induction d with
  | zero => intro r _; rfl
  | succ d ih =>
    intro r hr
    have e : hldB F i j Z (bgL rs r) (bgL rs (r + 1)) = hldB F' i j Z (bgL rs r) (bgL rs (r + 1)) := by
      have l := bgL_le (rs := rs) (r := r) (by omega)
      have l2 := bgL_s (rs := rs) (r := r) (by omega)
      unfold hldB
      rw [runL_c h hi hj _ _ _ (fun q hq => st_ok hz hv (by omega))]
    simp only [outL]
    rw [e, ih (r + 1) (by omega)]
theorem ru_ok {Z : xS} (hz : rzI rs Z) (hv : ruV rs) (h16 : rs.length ≤ 16) (h4 : (flatR rs).length ≤ 400) : ruOK Z (fun r => bgL rs (r + 1)) rs.length := by
  refine ⟨hz.1, h16, fun r hr => ?_⟩
  have l := bgL_le hr
  have l2 := bgL_s hr
  refine ⟨(hz.2.1 r hr).2, by show bgL rs (r + 1) ≤ 400; omega, by rw [bgL_b]; show bgL rs r ≤ bgL rs (r + 1); omega, fun p hp => st_ok hz hv (by have : p < bgL rs (r + 1) := hp; omega)⟩
/-- a Plan that holds the rules -/
def pzI (rs : RuL) (P : xS) : Prop := P.1 4 = nI rs.length ∧ (∀ r, r < rs.length → P.2 4 r = (rs.getD r (0, [])).1 ∧ P.2 5 r = nI (bgL rs r) ∧ P.2 6 r = nI (bgL rs (r + 1))) ∧ ∀ p, p < (flatR rs).length → P.2 7 p = trO ((flatR rs).getD p (0, 0)).1 ((flatR rs).getD p (0, 0)).2 ∧ P.2 8 p = trW ((flatR rs).getD p (0, 0)).1 ((flatR rs).getD p (0, 0)).2
theorem pz_rs (h4 : P.1 4 = nI rs.length) (hP : ∀ r, 4 ≤ r → P.2 r = (rsP (a_up x0 3 wo0) 0 rs).2 r) (h16 : rs.length ≤ 16) (hl : (flatR rs).length ≤ 400) : pzI rs P := by
  obtain ⟨_, _, _, k4, _, k6⟩ := rsP_i rs (P := a_up x0 3 wo0) (rr := 0) (m := 0) rfl (by omega) (by omega)
  refine ⟨h4, fun r hr => ?_, fun p hp => ?_⟩
  · have := k6 r hr
    rw [Nat.zero_add, Nat.zero_add, Nat.zero_add] at this
    rw [hP 4 (by omega), hP 5 (by omega), hP 6 (by omega)]
    exact this
  · have := k4 p hp
    rw [Nat.zero_add] at this
    rw [hP 7 (by omega), hP 8 (by omega)]
    exact this
theorem run_P (hz : pzI rs P) (hr : r < rs.length) : runR S P i j (rsE rs r).length (bgL rs r) [] = smR S P i j (rsE rs r) [] := by
  have e := bgL_s hr
  have l := bgL_le hr
  refine runR_sm (rsE rs r) (bgL rs r) [] (fun q hq => ?_)
  have := hz.2.2 (bgL rs r + q) (by omega)
  rw [rt_at hr hq] at this
  exact this
theorem run_v (hv : ruV rs) (hr : r < rs.length) : (rsE rs r = [] ∧ smR S P i j (rsE rs r) [] = some [] ) ∨ ∃ v, qB v ∧ smR S P i j (rsE rs r) [] = some [v] ∧ (i < 12 → j < 12 → (rsE rs r).length ≤ 400 → ¬ (rsE rs r).length = 0 ∧ smL (fS S P) i j (rsE rs r) [] = [v]) := by
  by_cases c : rsE rs r = []
  · exact Or.inl ⟨c, by rw [c]; rfl⟩
  · rcases (hv _ (rs_mem hr)).2 with z | z
    · exact absurd z c
    · obtain ⟨v, qv, x⟩ := z.2 S P i j
      refine Or.inr ⟨v, qv, (x []).1, fun hi hj hl => ⟨fun z => c (List.length_eq_zero_iff.mp z), (x []).2 hi hj (by rw [List.length_nil, Nat.zero_add]; exact hl)⟩⟩
theorem pl_V (hz : pzI rs P) (hv : ruV rs) (h16 : rs.length ≤ 16) (hl : (flatR rs).length ≤ 400) : plV P rs.length := by
  refine ⟨hz.1, h16, fun r hr => ?_⟩
  have e := bgL_s hr
  have l := bgL_le hr
  obtain ⟨v1, v2, v3⟩ := hz.2.1 r hr
  refine ⟨bgL rs r, bgL rs (r + 1), v2, v3, by omega, by omega, fun S i j => ?_, by rw [v1]; exact (hv _ (rs_mem hr)).1⟩
  rw [e, Nat.add_sub_cancel_left, run_P hz hr]
  rcases run_v (S := S) (P := P) (i := i) (j := j) hv hr with ⟨_, z⟩ | ⟨v, _, z, _⟩
  · exact ⟨[], z, by simp⟩
  · exact ⟨[v], z, by simp⟩
theorem out_t {Z : xS} (hz : rzI rs Z) (hp : pzI rs P) (hv : ruV rs) (hl : (flatR rs).length ≤ 400) (hi : i < 12) (hj : j < 12) : ∀ d r, r + d = rs.length → outR S P i j d r = outL (fS S P) i j Z (fun r => bgL rs (r + 1)) d r (bgL rs r) := by
  intro d
  induction d with
  | zero => intro r _; rfl
  | succ d ih =>
    intro r h
    have hr : r < rs.length := by omega
    have e := bgL_s hr
    have l := bgL_le hr
    obtain ⟨v1, v2, v3⟩ := hp.2.1 r hr
    have eh : hdR S P i j r = hldB (fS S P) i j Z (bgL rs r) (bgL rs (r + 1)) := by
      rw [hold_L hz hr]
      unfold hdR
      rw [v2, v3, nI_clamp (by omega), nI_clamp (by omega), e, Nat.add_sub_cancel_left, run_P hp hr]
      rcases run_v (S := S) (P := P) (i := i) (j := j) hv hr with ⟨z1, z⟩ | ⟨v, qv, z, z2⟩
      · rw [z, z1]; rfl
      · obtain ⟨z3, z4⟩ := z2 hi hj (by omega)
        rw [z, z4, decide_eq_false z3]
        rcases qv with rfl | rfl <;> rfl
    simp only [outR, outL]
    rw [eh, ih (r + 1) (by omega), v1, (hz.2.1 r hr).1]
/-- the two sides' rules, as one oracle -/
theorem ru_tie (hR : rlI rs R1) (hm : R.1 6 = nI mt) (h4 : P.1 4 = nI rs.length) (hP : ∀ r, 4 ≤ r → P.2 r = (rsP (a_up x0 3 wo0) 0 rs).2 r) (hv : ruV rs) (h16 : rs.length ≤ 16) (hl : (flatR rs).length ≤ 400) : ∃ ru, ruX (cpyR R R1) ru rs.length ∧ plV P rs.length ∧ (∀ S i j, i < 12 → j < 12 → outR S P i j rs.length 0 = ru (fS S P) i j) ∧ (∀ F i j, ru F i j = 0 ∨ ru F i j = 1 ∨ ru F i j = 2) ∧ ∀ nw nb F F' i j, eqF nw nb F F' → i < nw → j < nw → ru F i j = ru F' i j := by
  have hz := rz_cpy (R := R) hR h16 hl
  have hp := pz_rs h4 hP h16 hl
  exact ⟨fun F i j => outL F i j (cpyR R R1) (fun r => bgL rs (r + 1)) rs.length 0 0, ⟨_, mt, hm, ru_ok hz hv h16 hl, fun _ _ _ => rfl⟩, pl_V hp hv h16 hl, fun S i j hi hj => out_t hz hp hv hl hi hj _ 0 (Nat.zero_add _), fun F i j => outL_v hz hv _ 0 0 (Nat.zero_add _), fun nw nb F F' i j h hi hj => outL_c hz hv h hi hj _ 0 (Nat.zero_add _)⟩
end XRU
