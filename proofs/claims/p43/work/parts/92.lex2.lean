/-! THE TEXT OF told, CUT INTO TOKENS: trees, lines -/
section XLY
variable {n : Nat} {k j i q s e t d p : Nat} {T : xS} {len : Nat} {Y Z : List Int32} {G : xx_G}
def sW (s : String) : List Int32 := s.toList.map (fun c => Int32.ofNat c.toNat)
/-- Y is the word v -/
def wdB (Y : List Int32) (v : Nat) : Bool := decide (0 < Y.length ∧ isL (Y.getD 0 0) ∧ Y.length ≤ 10 ∧ swL Y 35 39 0 = v ∧ v < 35) && Y.all (fun c => decide (isL c ∨ isD c))
theorem LXs.wdB {v : Nat} (h : wdB Y v = true) : LXs nxW Y [(v, 0)] := by
  unfold _root_.Jvm.Pilot.CBeltRoundsLaw_law_r1643_5251a6.wdB at h
  rw [Bool.and_eq_true, decide_eq_true_eq] at h
  obtain ⟨⟨h0, h1, h10, hv, h35⟩, h2⟩ := h
  refine LXs.wd h0 h1 (fun q hq => ?_) h10 hv h35
  have := List.all_eq_true.mp h2 (Y.getD q 0) (by rw [List.getD_eq_getElem?_getD, List.getElem?_eq_getElem hq]; exact List.getElem_mem hq)
  exact of_decide_eq_true this
def syB (c : Int32) (v : Nat) : Bool := decide ((¬ isL c ∧ ¬ isD c ∧ ¬ isB c) ∧ swL [c] 38 39 0 = v ∧ v < 35)
theorem LXs.syB {c : Int32} {v : Nat} (h : syB c v = true) : LXs nxB [c] [(v, 0)] := by
  obtain ⟨h1, h2, h3⟩ := of_decide_eq_true h
  exact LXs.s1b h1 h2 h3
theorem LXs.syA {c : Int32} {v : Nat} (h : _root_.Jvm.Pilot.CBeltRoundsLaw_law_r1643_5251a6.syB c v = true) (h2 : ¬ (c = 60 ∨ c = 62)) : LXs nxA [c] [(v, 0)] := by
  obtain ⟨h1, h3, h4⟩ := of_decide_eq_true h
  exact LXs.s1 h1 h2 h3 h4
theorem pc_b : LXs nxA [32] [] := LXs.bl (Or.inl rfl)
theorem pc_n : LXs nxA [10] [] := LXs.bl (Or.inr rfl)
/-- a word between blanks, a word and a blank -/
theorem pc_wb {v : Nat} (h : wdB Y v = true) : LXs nxA (Y ++ [32]) [(v, 0)] := ((LXs.wdB h).app pc_b (Nat.zero_lt_one) (by decide)).to rfl rfl
theorem pc_bwb {v : Nat} (h : wdB Y v = true) (h0 : 0 < (Y ++ [32]).length) : LXs nxA ([32] ++ (Y ++ [32])) [(v, 0)] := pc_b.app (pc_wb h) h0 trivial
theorem pc_w : ∀ kd, 2 ≤ kd → kd < 8 → LXs nxW (tl (11 + kd)) [(wK kd, 0)] := by
  intro kd h1 h2
  have g : ∀ v, v < 8 → 2 ≤ v → wdB (tl (11 + v)) (wK v) = true := by decide +kernel
  exact LXs.wdB (g kd h2 h1)
theorem pc_red : LXs nxA (tl 31) [(6, 0)] := (pc_bwb (Y := sW "red") (by decide +kernel) (by decide +kernel)).to (by decide +kernel) rfl
theorem pc_blu : LXs nxA (tl 32) [(7, 0)] := (pc_bwb (Y := sW "blue") (by decide +kernel) (by decide +kernel)).to (by decide +kernel) rfl
theorem pc_rnd : LXs nxA (tl 30) [(10, 0)] := (pc_wb (Y := sW "round") (by decide +kernel)).to (by decide +kernel) rfl
theorem pc_met : LXs nxA (tl 37) [(12, 0)] := (pc_wb (Y := sW "met") (by decide +kernel)).to (by decide +kernel) rfl
theorem pc_op : LXs nxA (tl 35) [(20, 0)] := (LXs.syA (c := 40) (by decide +kernel) (by decide)).to (by decide +kernel) rfl
theorem pc_cl : LXs nxA (tl 34) [(21, 0)] := (LXs.syA (c := 41) (by decide +kernel) (by decide)).to (by decide +kernel) rfl
theorem pc_sq : LXs nxA (tl 40) [(22, 0)] := (LXs.syA (c := 91) (by decide +kernel) (by decide)).to (by decide +kernel) rfl
theorem pc_qs : LXs nxA (tl 39) [(23, 0)] := (LXs.syA (c := 93) (by decide +kernel) (by decide)).to (by decide +kernel) rfl
theorem pc_co : LXs nxA (tl 36) [(25, 0)] := (LXs.syA (c := 44) (by decide +kernel) (by decide)).to (by decide +kernel) rfl
theorem pc_se : LXs nxA (tl 2) [(24, 0)] := (LXs.syA (c := 59) (by decide +kernel) (by decide)).to (by decide +kernel) rfl
theorem pc_neg : LXs nxA (tl 33) [(27, 0), (20, 0)] := (((LXs.syA (c := 45) (v := 27) (by decide +kernel) (by decide)).app pc_b (by decide) trivial).app (LXs.syA (c := 40) (v := 20) (by decide +kernel) (by decide)) (by decide) trivial).to (by decide +kernel) rfl
theorem pc_not : LXs nxA (tl 38) [(15, 0), (22, 0)] := ((LXs.wdB (Y := sW "not") (v := 15) (by decide +kernel)).app (LXs.syA (c := 91) (v := 22) (by decide +kernel) (by decide)) (by decide) (by decide)).to (by decide +kernel) rfl
theorem pc_and : LXs nxW (tl 41) [(16, 0)] := LXs.wdB (by decide +kernel)
theorem pc_or : LXs nxW (tl 42) [(17, 0)] := LXs.wdB (by decide +kernel)
theorem pc_sg : ∀ kd, 9 ≤ kd → kd < 13 → LXs nxA (tl (19 + (kd - 9))) [(17 + kd, 0)] := by
  intro kd h1 h2
  rcases (show kd = 9 ∨ kd = 10 ∨ kd = 11 ∨ kd = 12 by omega) with rfl | rfl | rfl | rfl
  · exact (LXs.syA (c := 43) (v := 26) (by decide +kernel) (by decide)).to (by decide +kernel) rfl
  · exact (LXs.syA (c := 45) (v := 27) (by decide +kernel) (by decide)).to (by decide +kernel) rfl
  · exact (LXs.syA (c := 42) (v := 28) (by decide +kernel) (by decide)).to (by decide +kernel) rfl
  · exact (LXs.syA (c := 47) (v := 29) (by decide +kernel) (by decide)).to (by decide +kernel) rfl
theorem pc_mm : ∀ kd, 13 ≤ kd → kd < 15 → LXs nxA (tl (19 + (kd - 9))) [(5 + kd, 0), (20, 0)] := by
  intro kd h1 h2
  rcases (show kd = 13 ∨ kd = 14 by omega) with rfl | rfl
  · exact ((LXs.wdB (Y := sW "min") (v := 18) (by decide +kernel)).app (LXs.syA (c := 40) (v := 20) (by decide +kernel) (by decide)) (by decide) (by decide)).to (by decide +kernel) rfl
  · exact ((LXs.wdB (Y := sW "max") (v := 19) (by decide +kernel)).app (LXs.syA (c := 40) (v := 20) (by decide +kernel) (by decide)) (by decide) (by decide)).to (by decide +kernel) rfl
theorem pc_cm : ∀ kd, 20 ≤ kd → kd < 25 → LXs nxB (tl (25 + (kd - 20))) [(10 + kd, 0)] := by
  intro kd h1 h2
  rcases (show kd = 20 ∨ kd = 21 ∨ kd = 22 ∨ kd = 23 ∨ kd = 24 by omega) with rfl | rfl | rfl | rfl | rfl
  · exact (LXs.syB (c := 60) (v := 30) (by decide +kernel)).to (by decide +kernel) rfl
  · exact (LXs.syB (c := 62) (v := 31) (by decide +kernel)).to (by decide +kernel) rfl
  · exact (LXs.syB (c := 61) (v := 32) (by decide +kernel)).to (by decide +kernel) rfl
  · exact ((LXs.s2 (c := 60) (v := 33) (Or.inl rfl) (by decide +kernel) (by decide)).wk (fun _ _ => trivial)).to (by decide +kernel) rfl
  · exact ((LXs.s2 (c := 62) (v := 34) (Or.inr rfl) (by decide +kernel) (by decide)).wk (fun _ _ => trivial)).to (by decide +kernel) rfl
/-- a text that doesn't begin with = -/
def hdP (Y : List Int32) : Prop := 0 < Y.length ∧ ¬ Y.getD 0 0 = 61
theorem hdP.app (h : hdP Y) : hdP (Y ++ Z) := ⟨by rw [List.length_append]; exact Nat.lt_of_lt_of_le h.1 (Nat.le_add_right _ _), by rw [getD_app1 h.1]; exact h.2⟩
theorem hdP_t : ∀ k, k < 43 → ¬ k = 9 → ¬ k = 11 → ¬ k = 27 → hdP (tl k) := by unfold hdP; decide +kernel
theorem LXs.an {nx : Int32 → Prop} {L : List (Nat × Nat)} (h : LXs nxA Y L) : LXs nx Y L := h.wk (fun _ _ => trivial)
theorem tl_sgl : ∀ kd, 9 ≤ kd → kd < 15 → 0 < (tl (19 + (kd - 9))).length := by
  intro kd h1 h2
  rcases (show kd = 9 ∨ kd = 10 ∨ kd = 11 ∨ kd = 12 ∨ kd = 13 ∨ kd = 14 by omega) with rfl | rfl | rfl | rfl | rfl | rfl <;> decide +kernel
theorem tl_cml : ∀ kd, 20 ≤ kd → kd < 25 → 0 < (tl (25 + (kd - 20))).length ∧ nxW ((tl (25 + (kd - 20))).getD 0 0) := by
  intro kd h1 h2
  rcases (show kd = 20 ∨ kd = 21 ∨ kd = 22 ∨ kd = 23 ∨ kd = 24 by omega) with rfl | rfl | rfl | rfl | rfl <;> decide +kernel
theorem dec_hd {w : Nat} : hdP (decB w) := by
  have h := (decB_v w w (Nat.le_refl _)).2
  have hp := decB_pos w
  refine ⟨hp, fun z => ?_⟩
  have hm : (decB w).getD 0 0 ∈ decB w := by rw [List.getD_eq_getElem?_getD, List.getElem?_eq_getElem hp]; exact List.getElem_mem hp
  have := h _ hm
  rw [z] at this
  exact absurd this.2 (by decide)
/-- a tree's text is its tokens -/
theorem lx_tree : ∀ (f : Nat) (tr : Tr f), trK f tr → trW f tr → LXs nxW (txL f tr) (tkL f tr) ∧ hdP (txL f tr) := by
  intro f
  induction f with
  | zero => intro tr _ h; exact h.elim
  | succ f ih =>
    intro tr hK hW
    obtain ⟨⟨kd, nu⟩, ta, tb⟩ := tr
    obtain ⟨hk1, hk2, hk3, hk4, hk5, hk6⟩ := hK
    have hk1 : kd < 29 := hk1
    have hk2 : nu < 1000000 := hk2
    have hk3 : ¬ kd = 0 → nu < 2 := hk3
    have hk4 : hasA kd → trK f ta := hk4
    have hk5 : hasB kd → trK f tb := hk5
    have hk6 : ¬ (14 < kd ∧ kd < 20) := hk6
    have hwa : hasA kd → trW f ta := hW.1
    have hwb : hasB kd → trW f tb := hW.2
    have eT : tkL (f + 1) ((kd, nu), (ta, tb)) = if kd = 0 then [(36, nu)] else if kd = 1 then [(10, 0)] else if kd < 8 then [(wK kd, 0), (if nu = 0 then 6 else 7, 0)] else if kd = 8 then (27, 0) :: (20, 0) :: (tkL f ta ++ [(21, 0)]) else if kd < 13 then (20, 0) :: (tkL f ta ++ (21, 0) :: (17 + kd, 0) :: (20, 0) :: (tkL f tb ++ [(21, 0)])) else if kd < 15 then (5 + kd, 0) :: (20, 0) :: (tkL f ta ++ (25, 0) :: (tkL f tb ++ [(21, 0)])) else if kd < 25 then tkL f ta ++ (10 + kd, 0) :: tkL f tb else if kd = 25 then [(12, 0)] else if kd = 26 then (15, 0) :: (22, 0) :: (tkL f ta ++ [(23, 0)]) else (22, 0) :: (tkL f ta ++ (23, 0) :: (kd - 11, 0) :: (22, 0) :: (tkL f tb ++ [(23, 0)])) := rfl
    rw [txL_s, eT]
    have t11 : ([] : List Int32) ++ tl 11 = [] := by decide +kernel
    by_cases c0 : kd = 0
    · rw [if_pos c0, if_pos c0, t11, List.nil_append]; exact ⟨LXs.num hk2, dec_hd⟩
    rw [if_neg c0, if_neg c0]
    by_cases c1 : kd = 1
    · rw [if_pos c1, if_pos c1]; exact ⟨pc_rnd.an, hdP_t 30 (by omega) (by omega) (by omega) (by omega)⟩
    rw [if_neg c1, if_neg c1]
    by_cases c2 : kd < 8
    · rw [if_pos c2, if_pos c2, List.nil_append]
      refine ⟨?_, (hdP_t (11 + kd) (by omega) (by omega) (by omega) (by omega)).app⟩
      by_cases cn : nu = 0
      · rw [if_pos cn, if_pos cn]; exact ((pc_w kd (by omega) c2).app pc_red (by decide +kernel) (by decide +kernel)).an
      · rw [if_neg cn, if_neg cn]; exact ((pc_w kd (by omega) c2).app pc_blu (by decide +kernel) (by decide +kernel)).an
    rw [if_neg c2, if_neg c2]
    by_cases c25 : kd = 25
    · subst c25
      rw [if_neg (by omega), if_neg (by omega), if_neg (by omega), if_neg (by omega), if_pos rfl, if_neg (by omega), if_neg (by omega), if_neg (by omega), if_neg (by omega), if_pos rfl]
      exact ⟨pc_met.an, hdP_t 37 (by omega) (by omega) (by omega) (by omega)⟩
    have ha : hasA kd := ⟨by omega, c25⟩
    obtain ⟨xa, ya⟩ := ih ta (hk4 ha) (hwa ha)
    by_cases c8 : kd = 8
    · rw [if_pos c8, if_pos c8, List.nil_append]
      refine ⟨?_, (hdP_t 33 (by omega) (by omega) (by omega) (by omega)).app.app⟩
      exact ((pc_neg.app xa ya.1 trivial).app pc_cl (by decide +kernel) (by decide +kernel)).an.to rfl (by simp)
    rw [if_neg c8, if_neg c8]
    by_cases c26 : kd = 26
    · subst c26
      rw [if_neg (by omega), if_neg (by omega), if_neg (by omega), if_neg (by omega), if_pos rfl, if_neg (by omega), if_neg (by omega), if_neg (by omega), if_neg (by omega), if_pos rfl, List.nil_append]
      refine ⟨?_, (hdP_t 38 (by omega) (by omega) (by omega) (by omega)).app.app⟩
      exact ((pc_not.app xa ya.1 trivial).app pc_qs (by decide +kernel) (by decide +kernel)).an.to rfl (by simp)
    have hb : hasB kd := ⟨by omega, c25, c26⟩
    obtain ⟨xb, yb⟩ := ih tb (hk5 hb) (hwb hb)
    by_cases c13 : kd < 13
    · rw [if_pos c13, if_pos c13, List.nil_append]
      refine ⟨?_, (hdP_t 35 (by omega) (by omega) (by omega) (by omega)).app.app.app.app.app.app⟩
      exact ((((((pc_op.app xa ya.1 trivial).app pc_cl (by decide +kernel) (by decide +kernel)).app (pc_sg kd (by omega) c13) (tl_sgl kd (by omega) (by omega)) trivial).app pc_op (by decide +kernel) trivial).app xb yb.1 trivial).app pc_cl (by decide +kernel) (by decide +kernel)).an.to rfl (by simp)
    rw [if_neg c13, if_neg c13]
    by_cases c15 : kd < 15
    · rw [if_pos c15, if_pos c15, List.nil_append]
      refine ⟨?_, (hdP_t (19 + (kd - 9)) (by omega) (by omega) (by omega) (by omega)).app.app.app.app⟩
      exact (((((pc_mm kd (by omega) c15).app xa ya.1 trivial).app pc_co (by decide +kernel) (by decide +kernel)).app xb yb.1 trivial).app pc_cl (by decide +kernel) (by decide +kernel)).an.to rfl (by simp)
    rw [if_neg c15, if_neg c15]
    by_cases c24 : kd < 25
    · rw [if_pos c24, if_pos c24, List.nil_append]
      refine ⟨?_, ya.app.app⟩
      have z := tl_cml kd (by omega) c24
      exact ((xa.app (pc_cm kd (by omega) c24) z.1 z.2).app xb yb.1 yb.2).to rfl (by simp)
    rw [if_neg c24, if_neg c24, if_neg c25, if_neg c25, if_neg c26, if_neg c26, List.nil_append]
    refine ⟨?_, (hdP_t 40 (by omega) (by omega) (by omega) (by omega)).app.app.app.app.app.app⟩
    have pq := (pc_sq.app xa ya.1 trivial).app pc_qs (by decide +kernel) (by decide +kernel)
    have pr : LXs nxW (if kd = 27 then tl 41 else tl 42) [(kd - 11, 0)] := by
      by_cases c27 : kd = 27
      · subst c27; rw [if_pos rfl]; exact pc_and
      · rw [if_neg c27, show kd - 11 = 17 by omega]; exact pc_or
    have pl : 0 < (if kd = 27 then tl 41 else tl 42).length := by split <;> decide +kernel
    exact ((((pq.app pr pl trivial).app pc_sq (by decide +kernel) (by decide +kernel)).app xb yb.1 trivial).app pc_qs (by decide +kernel) (by decide +kernel)).an.to rfl (by simp)
end XLY
