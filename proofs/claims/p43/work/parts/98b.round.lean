/-! THE TIE: a round is paired -/
section XTR2
variable {n : Nat} {k j i q s e t d p : Nat} {S S' : sS} {F : xS} {nw nb r : Nat}
/-- pairs that are apart, and who rests -/
def prD (ah be : Nat → Nat) (np nw : Nat) (rs : Int32) : Prop := (∀ q, q < np → ah q < nw ∧ be q < nw ∧ ¬ ah q = be q) ∧ (∀ q z, q < np → z < np → ¬ q = z → ¬ ah q = ah z ∧ ¬ ah q = be z ∧ ¬ be q = be z) ∧ (rs = -1 ∨ ∃ w, w < nw ∧ rs = nI w ∧ ∀ q, q < np → ¬ ah q = w ∧ ¬ be q = w)
theorem li_inj {R : Nat → Nat → Bool} (hR : sto R) {li : List Nat} (h : li.Pairwise (fun a b => R a b = true)) {x y : Nat} (hx : x < li.length) (hy : y < li.length) (e : li.getD x 0 = li.getD y 0) : x = y := by
  have key : ∀ x y, x < y → y < li.length → ¬ li.getD x 0 = li.getD y 0 := fun x y hxy hy e => by
    have z := List.pairwise_iff_getElem.mp h x y (by omega) hy hxy
    rw [List.getD_eq_getElem?_getD, List.getD_eq_getElem?_getD, List.getElem?_eq_getElem (by omega), List.getElem?_eq_getElem hy] at e
    have e : li[x] = li[y] := e
    rw [e, hR.2.2] at z
    cases z
  rcases Nat.lt_trichotomy x y with c | c | c
  · exact absurd e (key x y c hy)
  · exact c
  · exact absurd e.symm (key y x c hx)
theorem fa_inj {ls : List Nat} (hls : srt (f_R F nw) nw ls) : (∀ x y, x < fd_k F ls nw → y < fd_k F ls nw → fd_a F ls nw x = fd_a F ls nw y → x = y) ∧ ∀ w, w < 1000 → nw ≤ 12 → rs_r F (fd_l F ls nw) (lup F ls nw).length = nI w → ∀ x, x < fd_k F ls nw → ¬ fd_a F ls nw x = w := by
  have hpw : (lup F ls nw).Pairwise (fun a b => f_R F nw a b = true) := (hls.2.sublist (List.take_sublist _ _)).filter _
  have hR := ahd_sto (f_pts F) (rpts F nw) (f_str F)
  have inj := fun (x y : Nat) hx hy e => li_inj (x := x) (y := y) hR hpw hx hy e
  obtain ⟨c, hc⟩ : ∃ c, c = chs (rst_r F (fd_l F ls nw)) (lup F ls nw).length := ⟨_, rfl⟩
  have hk : fd_k F ls nw = rs_k (lup F ls nw).length := rfl
  have ha : ∀ x, fd_a F ls nw x = rs_l F (fd_l F ls nw) (lup F ls nw).length x := fun x => rfl
  unfold rs_r
  by_cases ev : (lup F ls nw).length % 2 = 0
  · have hk2 : fd_k F ls nw = (lup F ls nw).length := by rw [hk]; unfold rs_k; rw [if_pos ev]
    have ha2 : ∀ x, fd_a F ls nw x = (lup F ls nw).getD x 0 := fun x => by rw [ha]; unfold rs_l; rw [if_pos ev]
    rw [if_pos ev, hk2]
    refine ⟨fun x y hx hy e => inj x y hx hy (by rw [← ha2, ← ha2]; exact e), fun w hw _ z => ?_⟩
    exfalso
    have := congrArg Int32.toInt z
    rw [i_n (by omega), show (-1 : Int32).toInt = -1 from rfl] at this
    omega
  · have hk2 : fd_k F ls nw = (lup F ls nw).length - 1 := by rw [hk]; unfold rs_k; rw [if_neg ev]
    have ha2 : ∀ x, fd_a F ls nw x = (lup F ls nw).getD (if x < c then x else x + 1) 0 := fun x => by
      rw [ha]; unfold rs_l; rw [if_neg ev, ← hc]
      show (if x < c then fd_l F ls nw x else fd_l F ls nw (x + 1)) = _
      split <;> rfl
    rw [if_neg ev, hk2, ← hc]
    have hcl : c < (lup F ls nw).length := by rw [hc]; exact chs_lt _ (by omega)
    refine ⟨fun x y hx hy e => ?_, fun w hw h12 z x hx e => ?_⟩
    · rw [ha2, ha2] at e
      have := inj _ _ (by split <;> omega) (by split <;> omega) e
      by_cases c1 : x < c <;> by_cases c2 : y < c <;> simp [c1, c2] at this <;> omega
    · have hlt : (lup F ls nw).getD c 0 < nw := by rw [getD_at hcl]; exact lup_lt hls (List.getElem_mem hcl)
      have z : nI ((lup F ls nw).getD c 0) = nI w := z
      rw [nI_ij (by omega) (by omega)] at z
      rw [ha2, ← z] at e
      have := inj _ _ (by split <;> omega) hcl e
      by_cases c1 : x < c <;> simp [c1] at this <;> omega
theorem prD_F (h12 : nw ≤ 12) : prD (p1F F nw) (p2F F nw) (npF F nw) nw (rsF F nw) ∧ ∀ q, q < npF F nw → f_R F nw (p1F F nw q) (p2F F nw q) = true := by
  have hls := lsF_ok F nw
  have hk12 : fd_k F (lsF F nw) nw ≤ 12 := Nat.le_trans (rs_le _) (Nat.le_trans lup_len h12)
  have hke : fd_k F (lsF F nw) nw = 2 * npF F nw := rs_ev2 _
  obtain ⟨g1, g2⟩ := fa_inj hls
  have e1 : ∀ q, p1F F nw q = fd_a F (lsF F nw) nw (loA (fd_m F (lsF F nw) nw) (fd_k F (lsF F nw) nw) (npF F nw) q) := fun q => rfl
  have e2 : ∀ q, p2F F nw q = fd_a F (lsF F nw) nw (prA (fd_m F (lsF F nw) nw) (fd_k F (lsF F nw) nw) (npF F nw) q) := fun q => rfl
  obtain ⟨⟨h6, hv⟩, hr⟩ := prs_ok (F := F) (nw := nw) h12
  refine ⟨⟨hv, fun q z hq hz hn => ?_, ?_⟩, fun q hq => ?_⟩
  · obtain ⟨a1, a2, -⟩ := lp_1 (met := fd_m F (lsF F nw) nw) hk12 hke hq
    obtain ⟨b1, b2, -⟩ := lp_1 (met := fd_m F (lsF F nw) nw) hk12 hke hz
    have nn : ¬ loA (fd_m F (lsF F nw) nw) (fd_k F (lsF F nw) nw) (npF F nw) q = loA (fd_m F (lsF F nw) nw) (fd_k F (lsF F nw) nw) (npF F nw) z ∧ ¬ loA (fd_m F (lsF F nw) nw) (fd_k F (lsF F nw) nw) (npF F nw) q = prA (fd_m F (lsF F nw) nw) (fd_k F (lsF F nw) nw) (npF F nw) z ∧ ¬ prA (fd_m F (lsF F nw) nw) (fd_k F (lsF F nw) nw) (npF F nw) q = prA (fd_m F (lsF F nw) nw) (fd_k F (lsF F nw) nw) (npF F nw) z := by
      rcases Nat.lt_or_gt_of_ne hn with c | c
      · obtain ⟨x1, x2, x3, x4⟩ := lp_ne (met := fd_m F (lsF F nw) nw) hk12 hke c hz
        exact ⟨by omega, x3, x4⟩
      · obtain ⟨x1, x2, x3, x4⟩ := lp_ne (met := fd_m F (lsF F nw) nw) hk12 hke c hq
        exact ⟨by omega, fun y => x2 y.symm, fun y => x4 y.symm⟩
    rw [e1, e1, e2, e2]
    exact ⟨fun y => nn.1 (g1 _ _ (by omega) (by omega) y), fun y => nn.2.1 (g1 _ _ (by omega) b2 y), fun y => nn.2.2 (g1 _ _ a2 b2 y)⟩
  · rcases hr with z | ⟨w, hw, z⟩
    · exact Or.inl z
    · refine Or.inr ⟨w, hw, z, fun q hq => ?_⟩
      obtain ⟨a1, a2, -⟩ := lp_1 (met := fd_m F (lsF F nw) nw) hk12 hke hq
      have y := g2 w (by omega) h12 z
      rw [e1, e2]
      exact ⟨y _ (by omega), y _ a2⟩
  · exact (fd_prop hls h12 hq).2.2
/-- what a bout that begins does to belts, floats, and who was blue -/
theorem sb_cnt {q i j w : Nat} (hi : i < 12) (hj : j < 12) (hw : w < 12) (hij : ¬ i = j) : (startBoutF F q i j).2 2 (6 * 12 + w) = F.2 2 (6 * 12 + w) + (if sx_r F i j = w then 1 else if sx_b F i j = w then -1 else 0) ∧ (startBoutF F q i j).2 2 (7 * 12 + w) = F.2 2 (7 * 12 + w) + (if f_at F 1 j < f_at F 1 i ∧ i = w then 1 else 0) ∧ (startBoutF F q i j).2 2 (9 * 12 + w) = (if sx_r F i j = w ∨ sx_b F i j = w then (if sx_b F i j = w then 1 else 0) else F.2 2 (9 * 12 + w)) := by
  have z : ∀ x : Int32, x + 0 = x := fun x => by grind
  obtain ⟨a, ha⟩ : ∃ a, a = sx_r F i j := ⟨_, rfl⟩
  obtain ⟨c, hc⟩ : ∃ c, c = sx_b F i j := ⟨_, rfl⟩
  have hac : a < 12 ∧ c < 12 ∧ ¬ a = c := by
    rw [ha, hc]; unfold sx_r sx_b
    split
    · exact ⟨hi, hj, hij⟩
    · exact ⟨hj, hi, fun y => hij y.symm⟩
  obtain ⟨ha2, hc2, hne⟩ := hac
  have key : ∀ X : xS, (sx_2 X a c).2 2 (6 * 12 + w) = X.2 2 (6 * 12 + w) + (if a = w then 1 else if c = w then -1 else 0) ∧ (sx_2 X a c).2 2 (7 * 12 + w) = X.2 2 (7 * 12 + w) ∧ (sx_2 X a c).2 2 (9 * 12 + w) = (if a = w ∨ c = w then (if c = w then 1 else 0) else X.2 2 (9 * 12 + w)) := by
    intro X
    unfold sx_2
    have nca : ¬ c = a := fun y => hne y.symm
    refine ⟨?_, ?_, ?_⟩
    · rw [at_st hc2 hw, at_add hc2 hw, at_st ha2 hw, at_st ha2 hc2, at_add ha2 hw, at_add ha2 hc2]
      by_cases c1 : a = w
      · subst c1; simp [hne]
      · have c1' : ¬ w = a := fun y => c1 y.symm
        by_cases c2 : c = w
        · subst c2; simp [c1, c1']
        · have c2' : ¬ w = c := fun y => c2 y.symm
          simp [c1, c1', c2, c2', z]
    · rw [at_st hc2 hw, at_add hc2 hw, at_st ha2 hw, at_st ha2 hc2, at_add ha2 hw, at_add ha2 hc2]
      simp
    · rw [at_st hc2 hw, at_add hc2 hw, at_st ha2 hw, at_st ha2 hc2, at_add ha2 hw, at_add ha2 hc2]
      by_cases c1 : a = w
      · subst c1; simp [hne, nca]
      · have c1' : ¬ w = a := fun y => c1 y.symm
        by_cases c2 : c = w
        · subst c2; simp [c1, c1']
        · have c2' : ¬ w = c := fun y => c2 y.symm
          simp [c1, c1', c2, c2']
  unfold startBoutF
  rw [← ha, ← hc]
  obtain ⟨k1, k2, k3⟩ := key (if f_at F 1 j < f_at F 1 i then f_add (sx_1 F q a c i j) 7 i 1 else sx_1 F q a c i j)
  rw [k1, k2, k3]
  have e1 : (sx_1 F q a c i j).2 2 = F.2 2 := by simp [va_up]
  by_cases g : f_at F 1 j < f_at F 1 i
  · rw [if_pos g, at_add hi hw, at_add hi hw, at_add hi hw, e1]
    by_cases c1 : i = w
    · subst c1; simp; exact g
    · have c1' : ¬ w = i := fun y => c1 y.symm
      simp [c1, c1', z]
  · rw [if_neg g, e1]
    simp [g, z]
/-- the counts behind the first bouts of a round -/
theorem srL_cnt {ah be : Nat → Nat} {np : Nat} {rs : Int32} (h12 : nw ≤ 12) (hp : prD ah be np nw rs) : ∀ m, m ≤ np → (∀ w, w < 12 → (∀ q, q < m → ¬ ah q = w ∧ ¬ be q = w) → ∀ c, (srL F ah be m).2 2 (c * 12 + w) = F.2 2 (c * 12 + w)) ∧ (∀ w, w < 12 → (srL F ah be m).2 2 (6 * 12 + w) = F.2 2 (6 * 12 + w) + bx_sum (fun q => if sx_r F (ah q) (be q) = w then 1 else if sx_b F (ah q) (be q) = w then -1 else 0) m ∧ (srL F ah be m).2 2 (7 * 12 + w) = F.2 2 (7 * 12 + w) + bx_sum (fun q => if f_at F 1 (be q) < f_at F 1 (ah q) ∧ ah q = w then 1 else 0) m ∧ ∀ c, ¬ c = 6 → ¬ c = 7 → ¬ c = 9 → (srL F ah be m).2 2 (c * 12 + w) = F.2 2 (c * 12 + w)) ∧ (∀ w, w < 12 → ∀ q, q < m → (srL F ah be (q + 1)).2 2 (9 * 12 + w) = if sx_r F (ah q) (be q) = w ∨ sx_b F (ah q) (be q) = w then (if sx_b F (ah q) (be q) = w then 1 else 0) else (srL F ah be q).2 2 (9 * 12 + w)) ∧ (∀ x y, x < 12 → y < 12 → (srL F ah be m).2 3 (x * 12 + y) = F.2 3 (x * 12 + y) + bx_sum (fun q => if (ah q = x ∧ be q = y) ∨ (ah q = y ∧ be q = x) then 1 else 0) m) ∧ (∀ q, q < m → (srL F ah be m).2 4 q = nI (sx_r F (ah q) (be q)) ∧ (srL F ah be m).2 5 q = nI (sx_b F (ah q) (be q)) ∧ (srL F ah be m).2 6 q = -1) ∧ (srL F ah be m).2 1 = F.2 1 := by
  intro m
  have z : ∀ x : Int32, x + 0 = x := fun x => by grind
  induction m with
  | zero =>
    intro _
    exact ⟨fun _ _ _ _ => rfl, fun w _ => ⟨(z _).symm, (z _).symm, fun _ _ _ _ => rfl⟩, fun _ _ q hq => absurd hq (Nat.not_lt_zero q), fun _ _ _ _ => (z _).symm, fun q hq => absurd hq (Nat.not_lt_zero q), rfl⟩
  | succ m ih =>
    intro hm
    obtain ⟨i1, i2, i3, i4, i5, i6⟩ := ih (by omega)
    obtain ⟨p1, p2, p3⟩ := hp
    obtain ⟨ha, hb, hab⟩ := p1 m (by omega)
    have hfr : ∀ q, q < m → (¬ ah q = ah m ∧ ¬ be q = ah m) ∧ ¬ ah q = be m ∧ ¬ be q = be m := fun q hq => by
      obtain ⟨a1, a2, a3⟩ := p2 q m (by omega) (by omega) (by omega)
      obtain ⟨b1, b2, b3⟩ := p2 m q (by omega) (by omega) (by omega)
      exact ⟨⟨a1, fun y => b2 y.symm⟩, a2, a3⟩
    have ca := i1 (ah m) (by omega) (fun q hq => (hfr q hq).1)
    have cb := i1 (be m) (by omega) (fun q hq => (hfr q hq).2)
    have er : redB (srL F ah be m) (ah m) (be m) = redB F (ah m) (be m) := by
      have e : redA (srL F ah be m) (ah m) (be m) ↔ redA F (ah m) (be m) := by
        unfold redA
        have a6 : f_at (srL F ah be m) 6 (ah m) = f_at F 6 (ah m) := ca 6
        have b6 : f_at (srL F ah be m) 6 (be m) = f_at F 6 (be m) := cb 6
        have a9 : f_at (srL F ah be m) 9 (ah m) = f_at F 9 (ah m) := ca 9
        have b9 : f_at (srL F ah be m) 9 (be m) = f_at F 9 (be m) := cb 9
        rw [a6, b6, a9, b9]
      cases h1 : redB F (ah m) (be m) with
      | true => exact redB_eq.mpr (e.mpr (redB_eq.mp h1))
      | false =>
        cases h2 : redB (srL F ah be m) (ah m) (be m) with
        | false => rfl
        | true => rw [redB_eq.mpr (e.mp (redB_eq.mp h2))] at h1; cases h1
    have ers : sx_r (srL F ah be m) (ah m) (be m) = sx_r F (ah m) (be m) := by unfold sx_r; rw [er]
    have ebs : sx_b (srL F ah be m) (ah m) (be m) = sx_b F (ah m) (be m) := by unfold sx_b; rw [er]
    have eS : srL F ah be (m + 1) = startBoutF (srL F ah be m) m (ah m) (be m) := rfl
    have rb : (sx_r F (ah m) (be m) = ah m ∧ sx_b F (ah m) (be m) = be m) ∨ (sx_r F (ah m) (be m) = be m ∧ sx_b F (ah m) (be m) = ah m) := by
      unfold sx_r sx_b
      split
      · exact Or.inl ⟨rfl, rfl⟩
      · exact Or.inr ⟨rfl, rfl⟩
    have cn := fun (w : Nat) (hw : w < 12) => sb_cnt (F := srL F ah be m) (q := m) (w := w) (show ah m < 12 by omega) (show be m < 12 by omega) hw hab
    obtain ⟨k1, k2, k3, k4, k5, k6⟩ := sb_k (F := srL F ah be m) (q := m) (i := ah m) (j := be m)
    refine ⟨fun w hw hn c => ?_, fun w hw => ⟨?_, ?_, fun c h6 h7 h9 => ?_⟩, fun w hw q hq => ?_, fun x y hx hy => ?_, fun q hq => ?_, ?_⟩
    · have hh := hn m (by omega)
      have w1 : ¬ sx_r F (ah m) (be m) = w ∧ ¬ sx_b F (ah m) (be m) = w := by
        rcases rb with ⟨r1, r2⟩ | ⟨r1, r2⟩ <;> rw [r1, r2]
        · exact hh
        · exact ⟨hh.2, hh.1⟩
      rw [← i1 w hw (fun q hq => hn q (by omega)) c, eS]
      obtain ⟨g6, g7, g9⟩ := cn w hw
      rw [ers, ebs] at g6 g9
      by_cases c6 : c = 6
      · subst c6; rw [g6, if_neg w1.1, if_neg w1.2, z]
      by_cases c7 : c = 7
      · subst c7; rw [g7, if_neg (fun y => hh.1 y.2), z]
      by_cases c9 : c = 9
      · subst c9; rw [g9, if_neg (fun y => y.elim w1.1 w1.2)]
      exact sbo_at (by omega) (by omega) hw c6 c7 c9
    · rw [eS, (cn w hw).1, ers, ebs, (i2 w hw).1, bx_s]; grind
    · rw [eS, (cn w hw).2.1, (i2 w hw).2.1, bx_s]
      show _ + bx_sum _ m + (if f_at (srL F ah be m) 1 (be m) < f_at (srL F ah be m) 1 (ah m) ∧ ah m = w then 1 else 0) = _
      have ea : f_at (srL F ah be m) 1 (ah m) = f_at F 1 (ah m) := ca 1
      have eb : f_at (srL F ah be m) 1 (be m) = f_at F 1 (be m) := cb 1
      rw [ea, eb]; grind
    · rw [eS, sbo_at (by omega) (by omega) hw h6 h7 h9]; exact (i2 w hw).2.2 c h6 h7 h9
    · by_cases e : q = m
      · subst e
        rw [eS, (cn w hw).2.2, ers, ebs]
      · exact i3 w hw q (by omega)
    · rw [eS, k3, mup_at (by omega) (by omega) hx hy hab, i4 x y hx hy, bx_s]
      by_cases c : (ah m = x ∧ be m = y) ∨ (ah m = y ∧ be m = x)
      · rw [if_pos (by omega), if_pos c]; grind
      · rw [if_neg (by omega), if_neg c]; grind
    · rw [eS, k4, k5, k6, ers, ebs]
      simp only [upd]
      by_cases e : q = m
      · subst e; rw [if_pos rfl, if_pos rfl, if_pos rfl]; exact ⟨rfl, rfl, rfl⟩
      · rw [if_neg e, if_neg e, if_neg e]; exact i5 q (by omega)
    · rw [eS, k2]; exact i6
/-- the row of a bout by hand is the class's bout -/
theorem nbF_v (hC : tiC S F nw) (h12 : nw ≤ 12) {a c : Nat} (ha : a < nw) (hc : c < nw) (hle : f_at F 1 c ≤ f_at F 1 a) : nbF S (nI a) (nI c) 0 = S.1 5 ∧ nbF S (nI a) (nI c) 1 = nI (sx_r F a c) ∧ nbF S (nI a) (nI c) 2 = nI (sx_b F a c) ∧ nbF S (nI a) (nI c) 3 = -1 ∧ nbF S (nI a) (nI c) 4 = if f_at F 1 c < f_at F 1 a then nI a else -1 := by
  obtain ⟨-, a1, -, -, -, -, a6, -, a9⟩ := hC.1 a ha
  obtain ⟨-, c1, -, -, -, -, c6, -, c9⟩ := hC.1 c hc
  have e : rdB S (nI a) (nI c) ↔ redB F a c = true := by
    rw [redB_eq]
    unfold rdB redA
    have a6 : f_at F 6 a = blS S (nI a) := a6
    have c6 : f_at F 6 c = blS S (nI c) := c6
    have a9 : f_at F 9 a = wbS S (nI a) (S.2.2 1) := a9
    have c9 : f_at F 9 c = wbS S (nI c) (S.2.2 1) := c9
    rw [a6, c6, a9, c9]
    by_cases g : blS S (nI a) = blS S (nI c)
    · rw [if_pos g]
      rcases wb_01 (S := S) (w := nI a) (S.2.2 1) with z1 | z1 <;> rcases wb_01 (S := S) (w := nI c) (S.2.2 1) with z2 | z2 <;> rw [z1, z2]
      · exact ⟨fun _ => by decide, fun _ => Or.inr ⟨g, Or.inl rfl⟩⟩
      · exact ⟨fun y => by
          rcases y with y | ⟨-, y | y⟩
          · exact absurd g y.1
          · exact absurd y (by decide)
          · exact absurd rfl y, fun y => absurd (by decide) y⟩
      · exact ⟨fun _ => by decide, fun _ => Or.inr ⟨g, Or.inl rfl⟩⟩
      · exact ⟨fun _ => by decide, fun _ => Or.inr ⟨g, Or.inr (by decide)⟩⟩
    · rw [if_neg g]
      exact ⟨fun y => y.elim (fun x => x.2) (fun x => absurd x.1 g), fun y => Or.inl ⟨g, y⟩⟩
  have e1 : nbF S (nI a) (nI c) 1 = if rdB S (nI a) (nI c) then nI a else nI c := by unfold nbF; simp [upd]
  have e2 : nbF S (nI a) (nI c) 2 = if rdB S (nI a) (nI c) then nI c else nI a := by unfold nbF; simp [upd]
  have e4 : nbF S (nI a) (nI c) 4 = flB S (nI a) (nI c) := by unfold nbF; simp [upd]
  refine ⟨by unfold nbF; simp [upd], ?_, ?_, by unfold nbF; simp [upd], ?_⟩
  · rw [e1]; unfold sx_r
    by_cases g : redB F a c = true
    · rw [if_pos g, if_pos (e.mpr g)]
    · rw [if_neg g, if_neg (fun y => g (e.mp y))]
  · rw [e2]; unfold sx_b
    by_cases g : redB F a c = true
    · rw [if_pos g, if_pos (e.mpr g)]
    · rw [if_neg g, if_neg (fun y => g (e.mp y))]
  · rw [e4]
    have a1 : f_at F 1 a = ptS S (nI a) := a1
    have c1 : f_at F 1 c = ptS S (nI c) := c1
    rw [a1, c1] at hle ⊢
    show (if ptS S (nI c) < ptS S (nI a) then nI a else if ptS S (nI a) < ptS S (nI c) then nI c else -1) = _
    rw [if_neg (show ¬ ptS S (nI a) < ptS S (nI c) from Int32.not_lt.mpr hle)]
end XTR2
