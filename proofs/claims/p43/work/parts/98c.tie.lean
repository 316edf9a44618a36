/-! THE TIE holds on behind a round that is paired, behind telling by rules -/
section XTG2
variable {n : Nat} {k j i q s e t d p : Nat} {S S' : sS} {F : xS} {nw nb r : Nat}
/-- a round paired: its fields -/
theorem rnd_at (h12 : nw ≤ 12) : (roundF F nw).1 9 = rsF F nw ∧ (∀ w, w < 12 → (roundF F nw).2 2 (5 * 12 + w) = F.2 2 (5 * 12 + w) + (if rsF F nw = nI w then 1 else 0) ∧ (roundF F nw).2 2 (1 * 12 + w) = F.2 2 (1 * 12 + w) + (if rsF F nw = nI w then F.2 1 2 else 0) ∧ ∀ c, ¬ c = 5 → ¬ c = 1 → (roundF F nw).2 2 (c * 12 + w) = (srL (sr_0 F (pX (npF F nw) (rsF F nw))) (p1F F nw) (p2F F nw) (npF F nw)).2 2 (c * 12 + w)) ∧ ∀ q, ¬ q = 2 → (roundF F nw).2 q = (srL (sr_0 F (pX (npF F nw) (rsF F nw))) (p1F F nw) (p2F F nw) (npF F nw)).2 q := by
  obtain ⟨hp, -⟩ := prD_F (F := F) h12
  obtain ⟨-, s2, -, -, -, s6⟩ := srL_cnt (F := sr_0 F (pX (npF F nw) (rsF F nw))) h12 hp (npF F nw) (Nat.le_refl _)
  have hz : ∀ x : Int32, x + 0 = x := fun x => by grind
  have eR : roundF F nw = restF (srL (sr_0 F (pX (npF F nw) (rsF F nw))) (p1F F nw) (p2F F nw) (npF F nw)) (rsF F nw) := rfl
  obtain ⟨X, hX⟩ : ∃ X, X = srL (sr_0 F (pX (npF F nw) (rsF F nw))) (p1F F nw) (p2F F nw) (npF F nw) := ⟨_, rfl⟩
  rw [← hX] at s2 s6
  rw [eR, ← hX]
  have s5' : ∀ w, w < 12 → X.2 2 (5 * 12 + w) = F.2 2 (5 * 12 + w) := fun w hw => (s2 w hw).2.2 5 (by omega) (by omega) (by omega)
  have s1' : ∀ w, w < 12 → X.2 2 (1 * 12 + w) = F.2 2 (1 * 12 + w) := fun w hw => (s2 w hw).2.2 1 (by omega) (by omega) (by omega)
  have s6 : X.2 1 = F.2 1 := s6
  rcases hp.2.2 with z | ⟨x, hx, z, -⟩
  · rw [z]
    unfold restF
    rw [if_pos rfl]
    refine ⟨by simp [va_up], fun w hw => ⟨?_, ?_, fun c h5 h1 => rfl⟩, fun q hq => rfl⟩
    · rw [if_neg (fun y => by have := congrArg Int32.toInt y; rw [i_n (by omega), show (-1 : Int32).toInt = -1 from rfl] at this; omega), hz]; exact s5' w hw
    · rw [if_neg (fun y => by have := congrArg Int32.toInt y; rw [i_n (by omega), show (-1 : Int32).toInt = -1 from rfl] at this; omega), hz]; exact s1' w hw
  · have hm1 : ¬ nI x = -1 := fun y => by have := congrArg Int32.toInt y; rw [i_n (by omega), show (-1 : Int32).toInt = -1 from rfl] at this; omega
    have hcl : (nI x).toNatClampNeg = x := nI_clamp (by omega)
    rw [z]
    unfold restF
    rw [if_neg hm1, hcl]
    refine ⟨by simp [va_up], fun w hw => ?_, fun q hq => by simp [va_up, hq]⟩
    have e1 : (s_up X 9 (nI x)).2 1 2 = F.2 1 2 := by show X.2 1 2 = _; rw [s6]
    have hiff : (nI x = nI w) ↔ x = w := nI_ij (by omega) (by omega)
    refine ⟨?_, ?_, fun c h5 h1 => ?_⟩
    · rw [at_add (by omega) hw, if_neg (fun y => absurd y.1 (by omega)), at_add (by omega) hw]
      by_cases c : x = w
      · subst c; rw [if_pos ⟨rfl, rfl⟩, if_pos rfl]; exact congrArg (· + 1) (s5' x hw)
      · rw [if_neg (fun y => c y.2.symm), if_neg (fun y => c (hiff.mp y)), hz]; exact s5' w hw
    · rw [at_add (by omega) hw, at_add (by omega) hw, at_add (by omega) (by omega), e1]
      by_cases c : x = w
      · subst c
        rw [if_pos ⟨rfl, rfl⟩, if_pos rfl, if_neg (fun y => absurd y.1 (by omega))]
        exact congrArg (· + F.2 1 2) (s1' x hw)
      · rw [if_neg (fun y => c y.2.symm), if_neg (fun y => c (hiff.mp y)), if_neg (fun y => absurd y.1 (by omega)), hz]; exact s1' w hw
    · rw [at_add (by omega) hw, if_neg (fun y => h1 y.1), at_add (by omega) hw, if_neg (fun y => h5 y.1)]
set_option maxHeartbeats 4000000 in
/-- a round is paired by hand and in the class -/
theorem tiS.round (h : tiS S F nw nb r) (hcan : canB F nw nb = true) {ls : List Nat} (hsrt : srt (sR S) nw ls) {f : Nat → Int32} (hf : ∀ p, p < (inS S ls).length → f p = nI (rwL S (inS S ls) p)) (hpr : prS S S' f (inS S ls).length ((inS S ls).length - (inS S ls).length % 2)) : tiS S' (roundF F nw) nw (npF F nw) (r + 1) ∧ S'.2.2 1 = S.2.2 1 + npF F nw := by
  have hbA := h.bA
  obtain ⟨⟨s0, s5, s3, n2, n6⟩, hok, hC, ⟨b1, b2, b3, b4⟩, hN, ⟨l1, l2, l3⟩⟩ := h
  have h12 : nw ≤ 12 := by omega
  have hz : ∀ x : Int32, x + 0 = x := fun x => by grind
  obtain ⟨o1, o2, o3, o4⟩ := hok.rnd hcan
  obtain ⟨hp, hord⟩ := prD_F (F := F) (nw := nw) h12
  obtain ⟨t1, t2, t3, t4, -⟩ := pr_tie hC hbA h12 hsrt hf rfl rfl
  obtain ⟨q0, q5, q8, q4, q44, q6, q1, qo, qn, q3, qr, ql⟩ := hpr
  rw [t1] at q1 qn
  rw [t3] at ql
  rw [s3] at qr ql q3
  obtain ⟨ah, hah⟩ : ∃ ah, ah = p1F F nw := ⟨_, rfl⟩
  obtain ⟨be, hbe⟩ : ∃ be, be = p2F F nw := ⟨_, rfl⟩
  obtain ⟨np, hnp⟩ : ∃ np, np = npF F nw := ⟨_, rfl⟩
  obtain ⟨rs, hrs⟩ : ∃ rs, rs = rsF F nw := ⟨_, rfl⟩
  obtain ⟨r9, ra, rq⟩ := rnd_at (F := F) h12
  rw [← hah, ← hbe, ← hnp, ← hrs] at hp ra rq
  rw [← hrs] at r9 ql
  rw [← hah, ← hbe, ← hnp] at hord t2
  rw [← hnp] at q1 qn o4 t4
  obtain ⟨c1, c2, c3, c4, c5, c6⟩ := srL_cnt (F := sr_0 F (pX np rs)) h12 hp np (Nat.le_refl _)
  rw [← hnp]
  refine ⟨?_, q1⟩
  obtain ⟨p1, p2, p3⟩ := hp
  obtain ⟨N, hNe⟩ : ∃ N, N = S.2.2 1 := ⟨_, rfl⟩
  rw [← hNe] at b1 b2 b3 b4 q1 qo qn
  have hms : (inS S ls).length ≤ nw := by have := inS_len (S := S) (ls := ls); have : ls.length = nw := by rw [hsrt.1.length_eq, List.length_range]
                                          omega
  have hnp3 : np ≤ 3 := by omega
  have hle : ∀ q, q < np → f_at F 1 (be q) ≤ f_at F 1 (ah q) := fun q hq => by
    have z := hord q hq
    unfold f_R ahd at z
    by_cases g : f_pts F (ah q) = f_pts F (be q)
    · have : f_at F 1 (ah q) = f_at F 1 (be q) := g
      rw [this, i_le]; exact Int.le_refl _
    · rw [if_neg g, decide_eq_true_eq] at z
      exact Int32.le_of_lt z
  have new : ∀ p, p < np → bt S' (N + p) 0 = nI r ∧ bt S' (N + p) 1 = nI (sx_r F (ah p) (be p)) ∧ bt S' (N + p) 2 = nI (sx_b F (ah p) (be p)) ∧ bt S' (N + p) 3 = -1 ∧ bt S' (N + p) 4 = if f_at F 1 (be p) < f_at F 1 (ah p) then nI (ah p) else -1 := fun p hp => by
    have z := qn p hp
    obtain ⟨y1, y2⟩ := t2 p hp
    rw [y1, y2] at z
    obtain ⟨g0, g1, g2, g3, g4⟩ := nbF_v hC h12 (p1 p hp).1 (p1 p hp).2.1 (hle p hp)
    rw [z, g0, g1, g2, g3, g4]; exact ⟨s5, rfl, rfl, rfl, rfl⟩
  have rb : ∀ p, p < np → (sx_r F (ah p) (be p) = ah p ∧ sx_b F (ah p) (be p) = be p) ∨ (sx_r F (ah p) (be p) = be p ∧ sx_b F (ah p) (be p) = ah p) := fun p _ => by
    unfold sx_r sx_b
    split
    · exact Or.inl ⟨rfl, rfl⟩
    · exact Or.inr ⟨rfl, rfl⟩
  have rbl : ∀ p, p < np → sx_r F (ah p) (be p) < nw ∧ sx_b F (ah p) (be p) < nw ∧ ¬ sx_r F (ah p) (be p) = sx_b F (ah p) (be p) := fun p hp => by
    obtain ⟨g1, g2, g3⟩ := p1 p hp
    rcases rb p hp with ⟨z1, z2⟩ | ⟨z1, z2⟩ <;> rw [z1, z2]
    · exact ⟨g1, g2, g3⟩
    · exact ⟨g2, g1, fun y => g3 y.symm⟩
  have sum : ∀ (g g' : Nat → Int32) (y : Nat → Int32), (∀ i, i < N → g' i = g i) → (∀ p, p < np → g' (N + p) = y p) → bx_sum g' (S'.2.2 1) = bx_sum g N + bx_sum y np := fun g g' y h1 h2 => by
    rw [q1, bx_app, bx_c N h1, bx_c np h2]
  have hmn : ∀ w x, mnS S' w x = mnS S w x := fun w x => by
    have z := sum (mnF S w x) (mnF S' w x) (fun _ => 0) (fun i hi => by unfold mnF; rw [(qo i hi).1]) (fun p hp => by unfold mnF; rw [(new p hp).2.2.2.1, if_neg (fun y => absurd y.1 (by decide))])
    rw [bx_z np (fun _ _ => rfl), hz] at z
    show bx_sum (mnF S' w x) (S'.2.2 1) = bx_sum (mnF S w x) (S.2.2 1)
    rw [z, hNe]
  have hrsS : ∀ w, rsS S' (nI w) = rsS S (nI w) + (if rs = nI w then 1 else 0) := fun w => by
    show bx_sum (rsF2 S' (nI w)) (S'.2.2 3) = bx_sum (rsF2 S (nI w)) (S.2.2 3) + _
    rw [q3, s3, bx_s, bx_c r (fun i hi => by unfold rsF2; rw [qr i hi] : ∀ i, i < r → rsF2 S' (nI w) i = rsF2 S (nI w) i)]
    unfold rsF2
    rw [ql]
  have e2 : ∀ q, q < 8 → S'.2.1 q = S.2.1 q := q8
  refine ⟨⟨q0.trans s0, by rw [q5, s5]; exact nI_1 r, q3, n2, n6⟩, o4, ⟨fun w hw => ?_, fun w hw => ?_, fun i hi => ?_, fun x y hx hy => ?_⟩, ⟨by omega, by omega, fun i hi => ?_, fun q hq => ?_⟩, fun w hw => ?_, ⟨fun q z hq hz2 hn => ?_, Or.inr ⟨by omega, ?_⟩, fun i hi => ?_⟩⟩
  · obtain ⟨a0, a1, a2, a3, a4, a5, a6, a7, a9⟩ := hC.1 w hw
    obtain ⟨x5, x1, xo⟩ := ra w (by omega)
    obtain ⟨y6, y7, yo⟩ := c2 w (by omega)
    refine ⟨?_, ?_, ?_, ?_, ?_, ?_, ?_, ?_, ?_⟩
    · rw [xo 0 (by omega) (by omega), yo 0 (by omega) (by omega) (by omega), e2 1 (by omega)]; exact a0
    · rw [x1, a1]
      unfold ptS
      rw [hmn, hmn, hrsS, e2 2 (by omega), hC.2.2.1 2 (by omega)]
      by_cases c : rs = nI w
      · rw [if_pos c, if_pos c]; grind
      · rw [if_neg c, if_neg c, hz, hz]
    · rw [xo 2 (by omega) (by omega), yo 2 (by omega) (by omega) (by omega), hmn]; exact a2
    · rw [xo 3 (by omega) (by omega), yo 3 (by omega) (by omega) (by omega), hmn]; exact a3
    · rw [xo 4 (by omega) (by omega), yo 4 (by omega) (by omega) (by omega), hmn]; exact a4
    · rw [x5, hrsS, a5]
    · rw [xo 6 (by omega) (by omega), y6]
      have z := sum (blF S (nI w)) (blF S' (nI w)) (fun p => if sx_r F (ah p) (be p) = w then 1 else if sx_b F (ah p) (be p) = w then -1 else 0) (fun i hi => by unfold blF; rw [(qo i hi).1]) (fun p hp => by
        obtain ⟨g1, g2, -⟩ := rbl p hp
        unfold blF
        rw [(new p hp).2.1, (new p hp).2.2.1]
        by_cases u1 : sx_r F (ah p) (be p) = w
        · rw [if_pos (congrArg nI u1), if_pos u1]
        · rw [if_neg (fun y => u1 ((nI_ij (by omega) (by omega)).mp y)), if_neg u1]
          by_cases u2 : sx_b F (ah p) (be p) = w
          · rw [if_pos (congrArg nI u2), if_pos u2]
          · rw [if_neg (fun y => u2 ((nI_ij (by omega) (by omega)).mp y)), if_neg u2])
      show _ = bx_sum (blF S' (nI w)) (S'.2.2 1)
      rw [z, hNe]
      exact congrArg (· + bx_sum _ np) a6
    · rw [xo 7 (by omega) (by omega), y7]
      have z := sum (flF S (nI w)) (flF S' (nI w)) (fun p => if f_at F 1 (be p) < f_at F 1 (ah p) ∧ ah p = w then 1 else 0) (fun i hi => by unfold flF; rw [(qo i hi).1]) (fun p hp => by
        obtain ⟨g1, g2, -⟩ := p1 p hp
        unfold flF
        rw [(new p hp).2.2.2.2]
        by_cases u1 : f_at F 1 (be p) < f_at F 1 (ah p)
        · rw [if_pos u1]
          by_cases u2 : ah p = w
          · rw [if_pos (congrArg nI u2), if_pos ⟨u1, u2⟩]
          · rw [if_neg (fun y => u2 ((nI_ij (by omega) (by omega)).mp y)), if_neg (fun y => u2 y.2)]
        · rw [if_neg u1, if_neg (fun y => by have := congrArg Int32.toInt y; rw [i_n (by omega), show (-1 : Int32).toInt = -1 from rfl] at this; omega), if_neg (fun y => u1 y.1)])
      show _ = bx_sum (flF S' (nI w)) (S'.2.2 1)
      rw [z, hNe]
      exact congrArg (· + bx_sum _ np) a7
    · rw [xo 9 (by omega) (by omega), q1]
      have key : ∀ p, p ≤ np → wbS S' (nI w) (N + p) = (srL (sr_0 F (pX np rs)) ah be p).2 2 (9 * 12 + w) := by
        intro p
        induction p with
        | zero =>
          intro _
          show wbS S' (nI w) N = F.2 2 (9 * 12 + w)
          rw [a9, ← hNe]
          exact wbS_c N (fun i hi => by rw [(qo i hi).1]; exact ⟨rfl, rfl⟩)
        | succ p ih =>
          intro hp
          obtain ⟨g1, g2, -⟩ := rbl p (by omega)
          rw [c3 w (by omega) p (by omega), ← ih (by omega)]
          show (if bt S' (N + p) 1 = nI w ∨ bt S' (N + p) 2 = nI w then (if bt S' (N + p) 2 = nI w then 1 else 0) else wbS S' (nI w) (N + p)) = if sx_r F (ah p) (be p) = w ∨ sx_b F (ah p) (be p) = w then (if sx_b F (ah p) (be p) = w then 1 else 0) else wbS S' (nI w) (N + p)
          rw [(new p (by omega)).2.1, (new p (by omega)).2.2.1]
          have i1 : nI (sx_r F (ah p) (be p)) = nI w ↔ sx_r F (ah p) (be p) = w := nI_ij (by omega) (by omega)
          have i2 : nI (sx_b F (ah p) (be p)) = nI w ↔ sx_b F (ah p) (be p) = w := nI_ij (by omega) (by omega)
          by_cases u2 : sx_b F (ah p) (be p) = w
          · rw [if_pos (Or.inr (i2.mpr u2)), if_pos (i2.mpr u2), if_pos (Or.inr u2), if_pos u2]
          · by_cases u1 : sx_r F (ah p) (be p) = w
            · rw [if_pos (Or.inl (i1.mpr u1)), if_neg (fun y => u2 (i2.mp y)), if_pos (Or.inl u1), if_neg u2]
            · rw [if_neg (fun y => y.elim (fun y => u1 (i1.mp y)) (fun y => u2 (i2.mp y))), if_neg (fun y => y.elim u1 u2)]
      exact (key np (Nat.le_refl _)).symm
  · rw [e2 6 (by omega), (ra w (by omega)).2.2 8 (by omega) (by omega), (c2 w (by omega)).2.2 8 (by omega) (by omega) (by omega)]
    exact hC.2.1 w hw
  · rw [rq 1 (by omega), e2 2 (by omega), c6]; exact hC.2.2.1 i hi
  · rw [rq 3 (by omega), c4 x y (by omega) (by omega)]
    have z := sum (mtF S (nI x) (nI y) 99) (mtF S' (nI x) (nI y) 99) (fun p => if (ah p = x ∧ be p = y) ∨ (ah p = y ∧ be p = x) then 1 else 0) (fun i hi => by unfold mtF; rw [(qo i hi).1]) (fun p hp => by
      obtain ⟨g1, g2, -⟩ := rbl p hp
      unfold mtF
      rw [(new p hp).1, (new p hp).2.1, (new p hp).2.2.1]
      have e : ¬ (99 : Int32) ≤ nI r := by rw [i_le, i_n (by omega), show (99 : Int32).toInt = 99 from rfl]; omega
      have i1 : nI (sx_r F (ah p) (be p)) = nI x ↔ sx_r F (ah p) (be p) = x := nI_ij (by omega) (by omega)
      have i2 : nI (sx_b F (ah p) (be p)) = nI y ↔ sx_b F (ah p) (be p) = y := nI_ij (by omega) (by omega)
      have i3 : nI (sx_r F (ah p) (be p)) = nI y ↔ sx_r F (ah p) (be p) = y := nI_ij (by omega) (by omega)
      have i4 : nI (sx_b F (ah p) (be p)) = nI x ↔ sx_b F (ah p) (be p) = x := nI_ij (by omega) (by omega)
      have g : ((nI (sx_r F (ah p) (be p)) = nI x ∧ nI (sx_b F (ah p) (be p)) = nI y) ∨ (nI (sx_r F (ah p) (be p)) = nI y ∧ nI (sx_b F (ah p) (be p)) = nI x)) ↔ ((ah p = x ∧ be p = y) ∨ (ah p = y ∧ be p = x)) := by
        rw [i1, i2, i3, i4]
        rcases rb p hp with ⟨z1, z2⟩ | ⟨z1, z2⟩ <;> rw [z1, z2] <;> omega
      by_cases u : (ah p = x ∧ be p = y) ∨ (ah p = y ∧ be p = x)
      · rw [if_pos ⟨e, g.mpr u⟩, if_pos u]
      · rw [if_neg (fun y => u (g.mp y.2)), if_neg u])
    show _ = bx_sum (mtF S' (nI x) (nI y) 99) (S'.2.2 1)
    rw [z, hNe]
    exact congrArg (· + bx_sum _ np) (hC.2.2.2 x y hx hy)
  · by_cases hi2 : i < N
    · obtain ⟨u, a, c, hb, hu, d1, d2⟩ := b3 i hi2
      have ebt := (qo i hi2).1
      refine ⟨u, a, c, by unfold btR; rw [ebt]; exact hb, by omega, fun _ => ⟨by omega, ?_⟩, fun z => by omega⟩
      rw [ebt]
      by_cases z : i + nb < N
      · exact (d1 z).2
      · have z2 := opN_0 nb o1 (i - (N - nb)) (by omega)
        rw [(b4 (i - (N - nb)) (by omega)).2.2, show N - nb + (i - (N - nb)) = i by omega] at z2
        exact z2
    · obtain ⟨p, rfl⟩ : ∃ p, i = N + p := ⟨i - N, by omega⟩
      have hp : p < np := by omega
      obtain ⟨g0, g1, g2, g3, g4⟩ := new p hp
      obtain ⟨v1, v2, v3⟩ := rbl p hp
      refine ⟨r, _, _, ⟨g0, g1, g2, v1, v2, v3, Or.inl g3, ?_⟩, by omega, fun z => by omega, fun _ => rfl⟩
      rw [g4]
      split
      · rcases rb p hp with ⟨z1, z2⟩ | ⟨z1, z2⟩ <;> rw [z1, z2]
        · exact Or.inr (Or.inl rfl)
        · exact Or.inr (Or.inr rfl)
      · exact Or.inl rfl
  · obtain ⟨g0, g1, g2, g3, g4⟩ := new q hq
    obtain ⟨w4, w5, w6⟩ := c5 q hq
    rw [rq 4 (by omega), rq 5 (by omega), rq 6 (by omega), w4, w5, w6, show S'.2.2 1 - np + q = N + q by omega, g1, g2, g3]
    exact ⟨rfl, rfl, rfl⟩
  · have g1 : bwN S' w = bwN S w + cnN (fun p => bt S' (N + p) 1 = nI w ∨ bt S' (N + p) 2 = nI w) np := by
      unfold bwN
      rw [q1, cnN_app, cnN_c N (fun i hi => by rw [(qo i hi).1] : ∀ i, i < N → ((bt S' i 1 = nI w ∨ bt S' i 2 = nI w) ↔ (bt S i 1 = nI w ∨ bt S i 2 = nI w))), hNe]
    have g2 : rsN S' w = rsN S w + (if rs = nI w then 1 else 0) := by
      unfold rsN
      rw [q3, s3, cnN_s, cnN_c r (fun i hi => by rw [qr i hi] : ∀ i, i < r → ((S'.2.1 8 i = nI w) ↔ (S.2.1 8 i = nI w))), ql]
    have inP : ∀ p, p < np → (bt S' (N + p) 1 = nI w ∨ bt S' (N + p) 2 = nI w) → ah p = w ∨ be p = w := fun p hp y => by
      obtain ⟨v1, v2, v3⟩ := rbl p hp
      rw [(new p hp).2.1, (new p hp).2.2.1, nI_ij (by omega) (by omega), nI_ij (by omega) (by omega)] at y
      rcases rb p hp with ⟨z1, z2⟩ | ⟨z1, z2⟩ <;> rw [z1, z2] at y <;> omega
    have g3 : cnN (fun p => bt S' (N + p) 1 = nI w ∨ bt S' (N + p) 2 = nI w) np + (if rs = nI w then 1 else 0) ≤ 1 := by
      by_cases u : rs = nI w
      · rw [if_pos u, cnN_0 np (fun p hp y => by
          have y := inP p hp y
          rcases p3 with z | ⟨x, hx, z, hd⟩
          · rw [z] at u
            have := congrArg Int32.toInt u
            rw [i_n (by omega), show (-1 : Int32).toInt = -1 from rfl] at this
            omega
          · rw [z, nI_ij (by omega) (by omega)] at u
            have := hd p hp
            omega)]
        exact Nat.le_refl _
      · rw [if_neg u, Nat.add_zero]
        refine cnN_1 np (fun i j hi hj y1 y2 => ?_)
        have y1 := inP i hi y1
        have y2 := inP j hj y2
        apply Classical.byContradiction
        intro hn
        have z1 := p2 i j hi hj hn
        have z2 := p2 j i hj hi (fun y => hn y.symm)
        omega
    have := hN w hw
    rw [g1, g2]; omega
  · obtain ⟨w4, w5, w6⟩ := c5 q hq
    obtain ⟨x4, x5, x6⟩ := c5 z hz2
    obtain ⟨v1, v2, v3⟩ := rbl q hq
    obtain ⟨y1, y2, y3⟩ := rbl z hz2
    rw [rq 4 (by omega), rq 5 (by omega), w4, w5, x4, x5]
    have z1 := p2 q z hq hz2 hn
    have z2 := p2 z q hz2 hq (fun y => hn y.symm)
    have f1 : sx_r (sr_0 F (pX np rs)) (ah q) (be q) = sx_r F (ah q) (be q) := rfl
    have f2 : sx_b (sr_0 F (pX np rs)) (ah q) (be q) = sx_b F (ah q) (be q) := rfl
    have f3 : sx_r (sr_0 F (pX np rs)) (ah z) (be z) = sx_r F (ah z) (be z) := rfl
    have f4 : sx_b (sr_0 F (pX np rs)) (ah z) (be z) = sx_b F (ah z) (be z) := rfl
    rw [f1, f2, f3, f4, nI_ij (by omega) (by omega), nI_ij (by omega) (by omega), nI_ij (by omega) (by omega)]
    rcases rb q hq with ⟨u1, u2⟩ | ⟨u1, u2⟩ <;> rcases rb z hz2 with ⟨u3, u4⟩ | ⟨u3, u4⟩ <;> rw [u1, u2, u3, u4] <;> omega
  · rw [r9, show r + 1 - 1 = r by omega, ql]
  · by_cases c : i = r
    · subst c
      rw [ql]
      rcases p3 with z | ⟨x, hx, z, -⟩
      · exact Or.inl z
      · exact Or.inr ⟨x, hx, z⟩
    · rw [qr i (by omega)]; exact l3 i (by omega)
end XTG2
