/-! TWO FIELDS THAT AGREE -/
section XEQ
theorem ins_ex {R : Nat → Nat → Bool} (hR : sto R) {i : Nat} : ∀ ls : List Nat, ls.Pairwise (fun a b => R a b = true) → (∀ a, a ∈ ls → ¬ a = i) → ∃ ls' : List Nat, ls'.Perm (i :: ls) ∧ ls'.Pairwise (fun a b => R a b = true) := by
  intro ls
  induction ls with
  | nil => intro _ _; exact ⟨[i], List.Perm.refl _, List.pairwise_singleton _ _⟩
  | cons a t ih =>
    intro hp hn
    rw [List.pairwise_cons] at hp
    by_cases h : R i a = true
    · refine ⟨i :: a :: t, List.Perm.refl _, ?_⟩
      rw [List.pairwise_cons]
      refine ⟨fun c hc => ?_, List.pairwise_cons.mpr hp⟩
      rcases List.mem_cons.mp hc with e | hc
      · rw [e]; exact h
      · exact hR.2.1 _ _ _ h (hp.1 c hc)
    · have ha : R a i = true := (hR.1 a i (hn a List.mem_cons_self)).resolve_right h
      obtain ⟨ls', q1, q2⟩ := ih hp.2 (fun c hc => hn c (List.mem_cons_of_mem _ hc))
      refine ⟨a :: ls', (List.Perm.cons a q1).trans (List.Perm.swap i a t), ?_⟩
      rw [List.pairwise_cons]
      refine ⟨fun c hc => ?_, q2⟩
      rcases List.mem_cons.mp (q1.mem_iff.mp hc) with e | hc
      · rw [e]; exact ha
      · exact hp.1 c hc
theorem srt_ex {R : Nat → Nat → Bool} (hR : sto R) : ∀ nw, ∃ ls, srt R nw ls := by
  intro nw
  induction nw with
  | zero => exact ⟨[], List.Perm.refl _, List.Pairwise.nil⟩
  | succ n ih =>
    obtain ⟨ls, h1, h2⟩ := ih
    obtain ⟨ls', q1, q2⟩ := ins_ex hR (i := n) ls h2 (fun a ha e => by
      have := List.mem_range.mp (h1.mem_iff.mp ha)
      omega)
    refine ⟨ls', ?_, q2⟩
    rw [List.range_succ]
    exact (q1.trans (List.Perm.cons n h1)).trans (List.perm_append_singleton n _).symm
theorem srt_uniq {R : Nat → Nat → Bool} (hR : sto R) {nw : Nat} {l1 l2 : List Nat} (h1 : srt R nw l1) (h2 : srt R nw l2) : l1 = l2 := by
  refine List.ext_getElem (h1.len.trans h2.len.symm) fun p hp1 hp2 => ?_
  have hp : p < nw := by rw [← h1.len]; exact hp1
  have a := h2.rank hR hp
  have e : l2.getD p 0 = l1.getD p 0 := by
    by_cases z : l2.getD p 0 = l1.getD p 0
    · exact z
    · exact absurd a (h1.ne hR hp (h2.lt hp) z)
  rw [getD_at hp1, getD_at hp2] at e
  exact e.symm
/-- the order of a Field -/
noncomputable def lsF (F : xS) (nw : Nat) : List Nat := Classical.choose (srt_ex (ahd_sto (f_pts F) (rpts F nw) (f_str F)) nw)
theorem lsF_ok (F : xS) (nw : Nat) : srt (f_R F nw) nw (lsF F nw) := Classical.choose_spec (srt_ex (ahd_sto (f_pts F) (rpts F nw) (f_str F)) nw)
theorem lsF_eq {F : xS} {nw : Nat} {ls : List Nat} (h : srt (f_R F nw) nw ls) : ls = lsF F nw := srt_uniq (ahd_sto _ _ _) h (lsF_ok F nw)
variable {F F' : xS} {nw nb r : Nat}
/-- the counts agree -/
def agr2 (nw : Nat) (F F' : xS) : Prop := ∀ c w, c < 10 → w < nw → F.2 2 (c * 12 + w) = F'.2 2 (c * 12 + w)
/-- all that counts agrees -/
def eqF (nw nb : Nat) (F F' : xS) : Prop := (F.1 0 = F'.1 0 ∧ F.1 1 = F'.1 1 ∧ F.1 5 = F'.1 5 ∧ F.1 9 = F'.1 9) ∧ (∀ i, i < 3 → F.2 1 i = F'.2 1 i ∨ (nw = 0 ∧ (0 ≤ (F.2 1 i).toInt ∧ (F.2 1 i).toInt ≤ 9) ∧ 0 ≤ (F'.2 1 i).toInt ∧ (F'.2 1 i).toInt ≤ 9)) ∧ agr2 nw F F' ∧ (∀ i j, i < nw → j < nw → F.2 3 (i * 12 + j) = F'.2 3 (i * 12 + j)) ∧ ∀ q, q < nb → F.2 4 q = F'.2 4 q ∧ F.2 5 q = F'.2 5 q ∧ F.2 6 q = F'.2 6 q
theorem eqF.rf : eqF nw nb F F := ⟨⟨rfl, rfl, rfl, rfl⟩, fun _ _ => Or.inl rfl, fun _ _ _ _ => rfl, fun _ _ _ _ => rfl, fun _ _ => ⟨rfl, rfl, rfl⟩⟩
theorem eqF.symm (h : eqF nw nb F F') : eqF nw nb F' F := ⟨⟨h.1.1.symm, h.1.2.1.symm, h.1.2.2.1.symm, h.1.2.2.2.symm⟩, fun i hi => (h.2.1 i hi).elim (fun e => Or.inl e.symm) (fun z => Or.inr ⟨z.1, z.2.2, z.2.1⟩), fun c w hc hw => (h.2.2.1 c w hc hw).symm, fun i j hi hj => (h.2.2.2.1 i j hi hj).symm, fun q hq => ⟨(h.2.2.2.2 q hq).1.symm, (h.2.2.2.2 q hq).2.1.symm, (h.2.2.2.2 q hq).2.2.symm⟩⟩
theorem eqF.trans {F2 : xS} (h : eqF nw nb F F') (k : eqF nw nb F' F2) : eqF nw nb F F2 := ⟨⟨h.1.1.trans k.1.1, h.1.2.1.trans k.1.2.1, h.1.2.2.1.trans k.1.2.2.1, h.1.2.2.2.trans k.1.2.2.2⟩, fun i hi => (h.2.1 i hi).elim (fun e => by rw [e]; exact k.2.1 i hi) (fun z => (k.2.1 i hi).elim (fun e => by rw [← e]; exact Or.inr z) (fun y => Or.inr ⟨z.1, z.2.1, y.2.2⟩)), fun c w hc hw => (h.2.2.1 c w hc hw).trans (k.2.2.1 c w hc hw), fun i j hi hj => (h.2.2.2.1 i j hi hj).trans (k.2.2.2.1 i j hi hj), fun q hq => ⟨(h.2.2.2.2 q hq).1.trans (k.2.2.2.2 q hq).1, (h.2.2.2.2 q hq).2.1.trans (k.2.2.2.2 q hq).2.1, (h.2.2.2.2 q hq).2.2.trans (k.2.2.2.2 q hq).2.2⟩⟩
theorem eqF.sum (h : eqF nw nb F F') {c : Nat} (hc : c < 10) : bx_sum (fun w => F.2 2 (c * 12 + w)) nw = bx_sum (fun w => F'.2 2 (c * 12 + w)) nw := bx_congr nw fun i hi => h.2.2.1 c i hc hi
theorem eqF.rp (h : eqF nw nb F F') {w : Nat} (hw : w < nw) : rpts F nw w = rpts F' nw w := bx_congr nw fun o ho => by
  rw [h.2.2.2.1 w o hw ho, h.2.2.1 1 o (by decide) ho]
theorem eqF.R (h : eqF nw nb F F') {a c : Nat} (ha : a < nw) (hc : c < nw) : f_R F nw a c = f_R F' nw a c := by
  unfold f_R ahd
  rw [h.rp ha, h.rp hc, show f_pts F a = f_pts F' a from h.2.2.1 1 a (by decide) ha, show f_pts F c = f_pts F' c from h.2.2.1 1 c (by decide) hc, show f_str F a = f_str F' a from h.2.2.1 0 a (by decide) ha, show f_str F c = f_str F' c from h.2.2.1 0 c (by decide) hc]
theorem eqF.so (h : eqF nw nb F F') {ls : List Nat} (hs : srt (f_R F nw) nw ls) : srt (f_R F' nw) nw ls := by
  refine ⟨hs.1, hs.2.imp_of_mem fun {a c} ha hc hr => ?_⟩
  rw [← h.R (List.mem_range.mp (hs.1.mem_iff.mp ha)) (List.mem_range.mp (hs.1.mem_iff.mp hc))]
  exact hr
theorem eqF.ls (h : eqF nw nb F F') : lsF F nw = lsF F' nw := lsF_eq (h.so (lsF_ok F nw))
theorem eqF.lu (h : eqF nw nb F F') {ls : List Nat} (hs : srt (f_R F nw) nw ls) : lup F ls nw = lup F' ls nw := by
  unfold lup
  refine List.filter_congr fun a ha => ?_
  have := List.mem_range.mp (hs.1.mem_iff.mp (List.mem_of_mem_take ha))
  show decide (¬ f_at F 8 a = 0) = decide (¬ f_at F' 8 a = 0)
  rw [show f_at F 8 a = f_at F' 8 a from h.2.2.1 8 a (by decide) this]
theorem chs_congr {r1 r2 : Nat → Int32} : ∀ k, (∀ i, i < k → r1 i = r2 i) → chs r1 k = chs r2 k := by
  intro k
  induction k with
  | zero => intro _; rfl
  | succ k ih =>
    intro h
    simp only [chs]
    by_cases h0 : k = 0
    · rw [if_pos h0, if_pos h0]
    · have hc := chs_lt (r := r2) k (by omega)
      rw [if_neg h0, if_neg h0, ih (fun i hi => h i (by omega)), h k (by omega), h _ (by omega : chs r2 k < k + 1)]
/-- a round's pairs, of a Field in its order -/
noncomputable def npF (F : xS) (nw : Nat) : Nat := fd_k F (lsF F nw) nw / 2
noncomputable def rsF (F : xS) (nw : Nat) : Int32 := rs_r F (fd_l F (lsF F nw) nw) (lup F (lsF F nw) nw).length
noncomputable def p1F (F : xS) (nw : Nat) : Nat → Nat := fd_1 F (lsF F nw) nw
noncomputable def p2F (F : xS) (nw : Nat) : Nat → Nat := fd_2 F (lsF F nw) nw
theorem lup_lt {ls : List Nat} (hs : srt (f_R F nw) nw ls) {a : Nat} (ha : a ∈ lup F ls nw) : a < nw := List.mem_range.mp (hs.1.mem_iff.mp (List.mem_of_mem_take (List.mem_filter.mp ha).1))
theorem fdl_lt {ls : List Nat} (hs : srt (f_R F nw) nw ls) (h0 : 0 < nw) (q : Nat) : fd_l F ls nw q < nw := by
  show (lup F ls nw).getD q 0 < nw
  by_cases h : q < (lup F ls nw).length
  · rw [getD_at h]; exact lup_lt hs (List.getElem_mem h)
  · rw [List.getD, List.getElem?_eq_none (by omega)]; exact h0
theorem rsl_lt {la : Nat → Nat} {k : Nat} (h : ∀ q, la q < nw) (q : Nat) : rs_l F la k q < nw := by
  unfold rs_l
  by_cases e : k % 2 = 0
  · rw [if_pos e]; exact h q
  · rw [if_neg e]
    show (if _ then _ else _) < nw
    split <;> exact h _
theorem eqF.pairs (h : eqF nw nb F F') (h0 : 0 < nw) : npF F nw = npF F' nw ∧ rsF F nw = rsF F' nw ∧ p1F F nw = p1F F' nw ∧ p2F F nw = p2F F' nw ∧ mr (fd_m F (lsF F nw) nw) (fd_k F (lsF F nw) nw) (npF F nw) (2 ^ fd_k F (lsF F nw) nw - 1) = mr (fd_m F' (lsF F' nw) nw) (fd_k F' (lsF F' nw) nw) (npF F' nw) (2 ^ fd_k F' (lsF F' nw) nw - 1) := by
  have hl := lsF_ok F nw
  have e1 := h.ls
  have e2 : lup F (lsF F nw) nw = lup F' (lsF F' nw) nw := by rw [h.lu hl, e1]
  have e3 : fd_l F (lsF F nw) nw = fd_l F' (lsF F' nw) nw := by unfold fd_l; rw [e2]
  have hlt := fdl_lt (F := F) hl h0
  have e4 : chs (rst_r F (fd_l F (lsF F nw) nw)) (lup F (lsF F nw) nw).length = chs (rst_r F' (fd_l F' (lsF F' nw) nw)) (lup F' (lsF F' nw) nw).length := by
    rw [← e3, ← e2]
    exact chs_congr _ fun i hi => h.2.2.1 5 _ (by decide) (hlt i)
  have e5 : fd_a F (lsF F nw) nw = fd_a F' (lsF F' nw) nw := by
    unfold fd_a rs_l
    rw [e4, e3, e2]
  have hla := rsl_lt (F := F) (k := (lup F (lsF F nw) nw).length) hlt
  have e6 : fd_m F (lsF F nw) nw = fd_m F' (lsF F' nw) nw := by
    funext a c
    show metL F (fd_a F (lsF F nw) nw) a c = metL F' (fd_a F' (lsF F' nw) nw) a c
    rw [← e5]
    show decide (0 < F.2 3 _) = decide (0 < F'.2 3 _)
    rw [h.2.2.2.1 _ _ (hla a) (hla c)]
  have e7 : fd_k F (lsF F nw) nw = fd_k F' (lsF F' nw) nw := by unfold fd_k; rw [e2]
  refine ⟨by unfold npF; rw [e7], ?_, ?_, ?_, by rw [e6, e7, show npF F nw = npF F' nw by unfold npF; rw [e7]]⟩
  · unfold rsF rs_r
    rw [e4, e3, e2]
  · funext q; unfold p1F fd_1; rw [e5, e6, e7]
  · funext q; unfold p2F fd_2; rw [e5, e6, e7]
theorem agr2.add (h : agr2 nw F F') (h12 : nw ≤ 12) {q i : Nat} {d d' : Int32} (hd : d = d') (hq : q < 10) (hi : i < nw) : agr2 nw (f_add F q i d) (f_add F' q i d') := fun c w hc hw => by
  subst hd
  rw [at_add (by omega) (by omega), at_add (by omega) (by omega), h c w hc hw, h q i hq hi]
theorem agr2.set (h : agr2 nw F F') (h12 : nw ≤ 12) {q i : Nat} {d : Int32} (hi : i < nw) : agr2 nw (f_set F q i d) (f_set F' q i d) := fun c w hc hw => by
  rw [at_st (by omega) (by omega), at_st (by omega) (by omega), h c w hc hw]
theorem agr2.up (h : agr2 nw F F') {k : Nat} {f g : Nat → Int32} (hk : ¬ k = 2) : agr2 nw (a_up F k f) (a_up F' k g) := fun c w hc hw => by
  show va_up F.2 k f 2 _ = va_up F'.2 k g 2 _
  simp only [va_up]
  rw [if_neg (Ne.symm hk), if_neg (Ne.symm hk)]
  exact h c w hc hw
theorem agr2.red (h : agr2 nw F F') {i j : Nat} (hi : i < nw) (hj : j < nw) : redB F i j = redB F' i j := by
  rw [Bool.eq_iff_iff, redB_eq, redB_eq]
  unfold redA
  rw [show f_at F 6 i = f_at F' 6 i from h 6 i (by decide) hi, show f_at F 6 j = f_at F' 6 j from h 6 j (by decide) hj, show f_at F 9 i = f_at F' 9 i from h 9 i (by decide) hi, show f_at F 9 j = f_at F' 9 j from h 9 j (by decide) hj]
theorem agr2.sx2 (h : agr2 nw F F') (h12 : nw ≤ 12) {r u : Nat} (hr : r < nw) (hu : u < nw) : agr2 nw (sx_2 F r u) (sx_2 F' r u) := by
  unfold sx_2
  exact (((h.add h12 rfl (by decide) hr).set h12 hr).add h12 rfl (by decide) hu).set h12 hu
/-- a bout that begins keeps the agreement, and adds the bout -/
theorem eqF.sb (h : eqF nw nb F F') (h12 : nw ≤ 12) {i j : Nat} (hi : i < nw) (hj : j < nw) (hij : ¬ i = j) : eqF nw (nb + 1) (startBoutF F nb i j) (startBoutF F' nb i j) := by
  obtain ⟨s1, s2, s3, s4, s5, s6⟩ := sb_k (F := F) (q := nb) (i := i) (j := j)
  obtain ⟨t1, t2, t3, t4, t5, t6⟩ := sb_k (F := F') (q := nb) (i := i) (j := j)
  have er := h.2.2.1.red hi hj
  have ex : sx_r F i j = sx_r F' i j := by unfold sx_r; rw [er]
  have eu : sx_b F i j = sx_b F' i j := by unfold sx_b; rw [er]
  refine ⟨by rw [s1, t1]; exact h.1, by rw [s2, t2]; exact h.2.1, ?_, fun a c ha hc => ?_, fun q hq => ?_⟩
  · have hr : sx_r F i j < nw := by unfold sx_r; split <;> assumption
    have hu : sx_b F i j < nw := by unfold sx_b; split <;> assumption
    have hs : agr2 nw (sx_1 F nb (sx_r F i j) (sx_b F i j) i j) (sx_1 F' nb (sx_r F' i j) (sx_b F' i j) i j) := (((h.2.2.1.up (by decide)).up (by decide)).up (by decide)).up (by decide)
    unfold startBoutF
    rw [show f_at F 1 j = f_at F' 1 j from h.2.2.1 1 j (by decide) hj, show f_at F 1 i = f_at F' 1 i from h.2.2.1 1 i (by decide) hi]
    split
    · have := ((hs.add h12 (d := 1) rfl (show 7 < 10 by decide) hi).sx2 h12 hr hu)
      rw [ex, eu] at this ⊢
      exact this
    · have := hs.sx2 h12 hr hu
      rw [ex, eu] at this ⊢
      exact this
  · rw [s3, t3, mup_at (by omega) (by omega) (by omega) (by omega) hij, mup_at (by omega) (by omega) (by omega) (by omega) hij, h.2.2.2.1 a c ha hc]
  · rw [s4, s5, s6, t4, t5, t6, ex, eu]
    simp only [upd]
    by_cases e : q = nb
    · rw [if_pos e, if_pos e, if_pos e, if_pos e, if_pos e, if_pos e]; exact ⟨rfl, rfl, rfl⟩
    · rw [if_neg e, if_neg e, if_neg e, if_neg e, if_neg e, if_neg e]; exact h.2.2.2.2 q (by omega)
theorem eqF.srL (h : eqF nw 0 F F') (h12 : nw ≤ 12) {ah be : Nat → Nat} : ∀ np, (∀ q, q < np → ah q < nw ∧ be q < nw ∧ ¬ ah q = be q) → eqF nw np (srL F ah be np) (srL F' ah be np) := by
  intro np
  induction np with
  | zero => intro _; exact h
  | succ k ih =>
    intro hp
    obtain ⟨h1, h2, h3⟩ := hp k (by omega)
    exact (ih (fun q hq => hp q (by omega))).sb h12 h1 h2 h3
theorem eqF.round (h : eqF nw nb F F') (h12 : nw ≤ 12) {ah be : Nat → Nat} {np : Nat} {rs : Int32} (hp : prV ah be np nw) (hrs : rs = -1 ∨ ∃ w, w < nw ∧ rs = nI w) : eqF nw np (startRoundF F (pX np rs) ah be np) (startRoundF F' (pX np rs) ah be np) := by
  have z0 : eqF nw 0 (sr_0 F (pX np rs)) (sr_0 F' (pX np rs)) := ⟨⟨h.1.1, by show F.1 1 + 1 = F'.1 1 + 1; rw [h.1.2.1], rfl, h.1.2.2.2⟩, h.2.1, h.2.2.1, h.2.2.2.1, fun q hq => absurd hq (Nat.not_lt_zero q)⟩
  have z := eqF.srL z0 h12 np hp.2
  unfold startRoundF restF
  split
  · exact ⟨⟨z.1.1, z.1.2.1, z.1.2.2.1, rfl⟩, z.2.1, z.2.2.1, z.2.2.2.1, z.2.2.2.2⟩
  · rename_i hne
    obtain ⟨w, hw, e⟩ := hrs.resolve_left hne
    have eu : ((pX np rs).1 2).toNatClampNeg = w := by show rs.toNatClampNeg = w; rw [e]; exact nI_clamp (by omega)
    rw [eu]
    refine ⟨⟨z.1.1, z.1.2.1, z.1.2.2.1, rfl⟩, fun i hi => z.2.1 i hi, ?_, z.2.2.2.1, z.2.2.2.2⟩
    have y : agr2 nw (s_up (Jvm.Pilot.CBeltRoundsLaw_law_r1643_5251a6.srL (sr_0 F (pX np rs)) ah be np) 9 ((pX np rs).1 2)) (s_up (Jvm.Pilot.CBeltRoundsLaw_law_r1643_5251a6.srL (sr_0 F' (pX np rs)) ah be np) 9 ((pX np rs).1 2)) := z.2.2.1
    exact (y.add h12 rfl (by decide) hw).add h12 ((z.2.1 2 (by decide)).resolve_right (fun z => by omega)) (by decide) hw
theorem eqF.tell (h : eqF nw nb F F') (h12 : nw ≤ 12) {q i j : Nat} {v : Int32} (hi : i < nw) (hj : j < nw) : eqF nw nb (tellF F q i j v) (tellF F' q i j v) := by
  obtain ⟨a1, a2, a3⟩ := tellF_k (F := F) (q := q) (i := i) (j := j) (v := v)
  obtain ⟨b1, b2, b3⟩ := tellF_k (F := F') (q := q) (i := i) (j := j) (v := v)
  refine ⟨by rw [a1, b1]; exact h.1, fun k hk => by rw [a2 1 (by decide) (by decide), b2 1 (by decide) (by decide)]; exact h.2.1 k hk, ?_, fun x y hx hy => by rw [a2 3 (by decide) (by decide), b2 3 (by decide) (by decide)]; exact h.2.2.2.1 x y hx hy, fun p hp => ?_⟩
  · have z : agr2 nw (a_up F 6 (upd (F.2 6) q v)) (a_up F' 6 (upd (F'.2 6) q v)) := h.2.2.1.up (by decide)
    have w1 := (h.2.1 1 (by decide)).resolve_right (fun z => by omega)
    have w0 := (h.2.1 0 (by decide)).resolve_right (fun z => by omega)
    unfold tellF
    split
    · unfold drawF
      exact (((z.add h12 rfl (by decide) hi).add h12 w1 (by decide) hi).add h12 rfl (by decide) hj).add h12 w1 (by decide) hj
    split
    · unfold winF
      exact ((z.add h12 rfl (by decide) hi).add h12 w0 (by decide) hi).add h12 rfl (by decide) hj
    · unfold winF
      exact ((z.add h12 rfl (by decide) hj).add h12 w0 (by decide) hj).add h12 rfl (by decide) hi
  · rw [a2 4 (by decide) (by decide), b2 4 (by decide) (by decide), a2 5 (by decide) (by decide), b2 5 (by decide) (by decide), a3, b3]
    have z := h.2.2.2.2 p hp
    refine ⟨z.1, z.2.1, ?_⟩
    simp only [upd]
    split
    · rfl
    · exact z.2.2
theorem opN_congr {k : Nat} (h : ∀ q, q < k → F.2 6 q = F'.2 6 q) : opN F k = opN F' k := by
  induction k with
  | zero => rfl
  | succ k ih => rw [opN_s, opN_s, ih (fun q hq => h q (by omega)), h k (by omega)]
theorem eqF.ok (h : eqF nw nb F F') (k : okF F nw nb r) : okF F' nw nb r := by
  obtain ⟨⟨a1, a2⟩, ⟨b1, b2⟩, ⟨c1, c2⟩, hp, hm, hw, hbd, hin, hou⟩ := k
  refine ⟨⟨by rw [← h.1.1]; exact a1, a2⟩, ⟨by rw [← h.1.2.2.1]; exact b1, b2⟩, ⟨by rw [← h.1.2.1]; exact c1, c2⟩, fun w hwn => by rw [← h.2.2.1 1 w (by decide) hwn, ← opN_congr (F := F) (fun q hq => (h.2.2.2.2 q hq).2.2)]; exact hp w hwn, fun i j hi hj => by rw [← h.2.2.2.1 i j hi hj]; exact hm i j hi hj, fun i hi => (h.2.1 i hi).elim (fun e => by rw [← e]; exact hw i hi) (fun z => z.2.2), fun q hq => ?_, fun w hwn => by rw [← h.2.2.1 8 w (by decide) hwn]; exact hin w hwn, fun q hq => by rw [← (h.2.2.2.2 q hq).2.2]; exact hou q hq⟩
  obtain ⟨i, j, g1, g2, g3, g4, g5⟩ := hbd q hq
  exact ⟨i, j, by rw [← (h.2.2.2.2 q hq).1]; exact g1, g2, by rw [← (h.2.2.2.2 q hq).2.1]; exact g3, g4, g5⟩
/-- told by oracles that agree -/
theorem eqF.tl {ru ru' : xS → Nat → Nat → Int32} (h12 : nw ≤ 12) (hru : ∀ F F' i j, eqF nw nb F F' → i < nw → j < nw → ru F i j = ru' F' i j) : ∀ d k F F' c, k + d = nb → eqF nw nb F F' → bdV F nw nb → eqF nw nb (tlP ru d k F c).1 (tlP ru' d k F' c).1 ∧ (tlP ru d k F c).2 = (tlP ru' d k F' c).2 := by
  intro d
  induction d with
  | zero => intro k F F' c _ h _; exact ⟨h, rfl⟩
  | succ d ih =>
    intro k F F' c hk h hb
    have z := h.2.2.2.2 k (by omega)
    simp only [tlP]
    rw [← z.2.2]
    split
    · obtain ⟨i, j, e4, hi, e5, hj, hij⟩ := hb k (by omega)
      rw [← z.1, ← z.2.1, e4, e5, nI_clamp (by omega), nI_clamp (by omega), hru F F' i j h hi hj]
      exact ih (k + 1) _ _ _ (by omega) (h.tell h12 hi hj) (bdV_tell hb)
    · exact ih (k + 1) _ _ _ (by omega) h hb
end XEQ
