/-! THE TIE: what rules tell; all bouts told; who can pair -/
section XTH
variable {n : Nat} {k j i q s e t d p : Nat} {S S' : sS} {F : xS} {nw nb r : Nat} {G : xx_G}
/-- the rules by hand are the told ones -/
def rlS (G : xx_G) (S : sS) : Prop := S.2.2 6 = nrV G ∧ ∀ r, r < nrV G → S.2.1 3 r = nI (outV G r)
theorem cnN_pos {P : Nat → Prop} [DecidablePred P] {q : Nat} : ∀ m, q < m → P q → 1 ≤ cnN P m := by
  intro m
  induction m with
  | zero => intro h; omega
  | succ m ih =>
    intro hq hp
    rw [cnN_s]
    by_cases c : q = m
    · subst c; rw [if_pos hp]; omega
    · have := ih (by omega) hp; omega
/-- a bout's leaves, by hand and over the Field -/
theorem tiS.lf (h : tiS S F nw nb r) {q a c : Nat} (hq : q < nb) (h4 : F.2 4 q = nI a) (h5 : F.2 5 q = nI c) (ha : a < nw) (hc : c < nw) : lfT S (bt S (S.2.2 1 - nb + q)) F a c := by
  have hbA := h.bA
  obtain ⟨⟨s0, s5, s3, n2, n6⟩, hok, hC, ⟨b1, b2, b3, b4⟩, hN, ⟨l1, l2, l3⟩⟩ := h
  obtain ⟨i0, hi0⟩ : ∃ i0, i0 = S.2.2 1 - nb + q := ⟨_, rfl⟩
  rw [← hi0]
  have hlt : i0 < S.2.2 1 := by omega
  obtain ⟨e4, e5, e6⟩ := b4 q hq
  rw [← hi0] at e4 e5 e6
  have r1 : bt S i0 1 = nI a := e4.symm.trans h4
  have r2 : bt S i0 2 = nI c := e5.symm.trans h5
  obtain ⟨u, a', c', hb, hu, -, d2⟩ := b3 i0 hlt
  have hur : u + 1 = r := d2 (by omega)
  have r20 : r ≤ 20 := hok.2.2.1.2
  have r0 : bt S i0 0 = nI u := hb.1
  obtain ⟨a0, a1, a2, a3, a4, a5, a6, a7, a9⟩ := hC.1 a ha
  obtain ⟨c0, c1, c2, c3, c4, c5, c6, c7, c9⟩ := hC.1 c hc
  refine ⟨?_, fun kd nu k1 k2 k3 => ?_, ?_⟩
  · rw [r0, hok.2.2.1.1, ← hur, ← nI_1]; grind
  · have hw : ∃ w, w < nw ∧ bt S i0 (1 + nu) = nI w ∧ (if nu = 0 then a else c) = w := by
      rcases (show nu = 0 ∨ nu = 1 by omega) with rfl | rfl
      · exact ⟨a, ha, r1, rfl⟩
      · exact ⟨c, hc, r2, rfl⟩
    obtain ⟨w, hw, e1, e2⟩ := hw
    rw [e1, e2]
    obtain ⟨w0, w1, w2, w3, w4, w5, w6, w7, w9⟩ := hC.1 w hw
    rcases (show kd = 2 ∨ kd = 3 ∨ kd = 4 ∨ kd = 5 ∨ kd = 6 ∨ kd = 7 by omega) with rfl | rfl | rfl | rfl | rfl | rfl
    · exact w1.symm
    · have : (nI w).toNatClampNeg = w := nI_clamp (by omega)
      show S.2.1 1 (nI w).toNatClampNeg = _
      rw [this]; exact w0.symm
    · exact w2.symm
    · exact w6.symm
    · exact w7.symm
    · exact w5.symm
  · rw [r0, r1, r2, hC.2.2.2 a c ha hc]
    have v : ∀ i, i < S.2.2 1 → ∃ ui, bt S i 0 = nI ui ∧ ui < 20 ∧ (i + nb < S.2.2 1 → ui < u) ∧ (S.2.2 1 ≤ i + nb → ui = u) := fun i hi => by
      obtain ⟨ui, x, y, hb, h1, h2, h3⟩ := b3 i hi
      exact ⟨ui, hb.1, by omega, fun z => by have := (h2 z).1; omega, fun z => by have := h3 z; omega⟩
    have m1 : mtS S (nI a) (nI c) 99 = nI (cnN (fun i => (bt S i 1 = nI a ∧ bt S i 2 = nI c) ∨ (bt S i 1 = nI c ∧ bt S i 2 = nI a)) (S.2.2 1)) := by
      refine bx_cn _ (fun i hi => ?_)
      obtain ⟨ui, g0, g1, -⟩ := v i hi
      unfold mtF
      rw [g0]
      have e : ¬ (99 : Int32) ≤ nI ui := by rw [i_le, i_n (by omega), show (99 : Int32).toInt = 99 from rfl]; omega
      by_cases z : (bt S i 1 = nI a ∧ bt S i 2 = nI c) ∨ (bt S i 1 = nI c ∧ bt S i 2 = nI a)
      · rw [if_pos ⟨e, z⟩, if_pos z]
      · rw [if_neg (fun y => z y.2), if_neg z]
    have m2 : mtS S (nI a) (nI c) (nI u) = nI (cnN (fun i => (bt S i 1 = nI a ∧ bt S i 2 = nI c) ∨ (bt S i 1 = nI c ∧ bt S i 2 = nI a)) (S.2.2 1 - nb)) := by
      have eN : S.2.2 1 = (S.2.2 1 - nb) + nb := by omega
      show bx_sum (mtF S (nI a) (nI c) (nI u)) (S.2.2 1) = _
      rw [eN, bx_app, bx_z nb (fun p hp => by
        obtain ⟨ui, g0, g1, g2, g3⟩ := v (S.2.2 1 - nb + p) (by omega)
        unfold mtF
        rw [g0, if_neg (fun y => y.1 (by rw [g3 (by omega), i_le]; exact Int.le_refl _))]), Nat.add_sub_cancel]
      rw [bx_cn (P := fun i => (bt S i 1 = nI a ∧ bt S i 2 = nI c) ∨ (bt S i 1 = nI c ∧ bt S i 2 = nI a)) (S.2.2 1 - nb) (fun i hi => by
        obtain ⟨ui, g0, g1, g2, g3⟩ := v i (by omega)
        unfold mtF
        rw [g0]
        have e : ¬ nI u ≤ nI ui := by rw [i_le, i_n (by omega), i_n (by omega)]; have := g2 (by omega); omega
        by_cases z : (bt S i 1 = nI a ∧ bt S i 2 = nI c) ∨ (bt S i 1 = nI c ∧ bt S i 2 = nI a)
        · rw [if_pos ⟨e, z⟩, if_pos z]
        · rw [if_neg (fun y => z y.2), if_neg z])]
      grind
    have m3 : cnN (fun i => (bt S i 1 = nI a ∧ bt S i 2 = nI c) ∨ (bt S i 1 = nI c ∧ bt S i 2 = nI a)) (S.2.2 1) = cnN (fun i => (bt S i 1 = nI a ∧ bt S i 2 = nI c) ∨ (bt S i 1 = nI c ∧ bt S i 2 = nI a)) (S.2.2 1 - nb) + 1 := by
      have eN : S.2.2 1 = (S.2.2 1 - nb) + nb := by omega
      have z := cnN_app (P := fun i => (bt S i 1 = nI a ∧ bt S i 2 = nI c) ∨ (bt S i 1 = nI c ∧ bt S i 2 = nI a)) (a := S.2.2 1 - nb) nb
      rw [← eN] at z
      rw [z]
      congr 1
      have z1 := cnN_pos (P := fun x => (bt S (S.2.2 1 - nb + x) 1 = nI a ∧ bt S (S.2.2 1 - nb + x) 2 = nI c) ∨ (bt S (S.2.2 1 - nb + x) 1 = nI c ∧ bt S (S.2.2 1 - nb + x) 2 = nI a)) nb hq (by rw [← hi0]; exact Or.inl ⟨r1, r2⟩)
      have z2 := cnN_1 (P := fun x => (bt S (S.2.2 1 - nb + x) 1 = nI a ∧ bt S (S.2.2 1 - nb + x) 2 = nI c) ∨ (bt S (S.2.2 1 - nb + x) 1 = nI c ∧ bt S (S.2.2 1 - nb + x) 2 = nI a)) nb (fun x y hx hy px py => by
        apply Classical.byContradiction
        intro hn
        obtain ⟨f4, f5, -⟩ := b4 x hx
        obtain ⟨g4, g5, -⟩ := b4 y hy
        have n1 := l1 x y hx hy hn
        have n2 := l1 y x hy hx (fun z => hn z.symm)
        rw [f4, f5, g4, g5] at n1 n2
        rcases px with ⟨px1, px2⟩ | ⟨px1, px2⟩ <;> rcases py with ⟨py1, py2⟩ | ⟨py1, py2⟩ <;> rw [px1, px2, py1, py2] at n1 n2
        · exact n1.1 rfl
        · exact n1.2.1 rfl
        · exact n1.2.1 rfl
        · exact n1.1 rfl)
      omega
    have hcl := cnN_le (P := fun i => (bt S i 1 = nI a ∧ bt S i 2 = nI c) ∨ (bt S i 1 = nI c ∧ bt S i 2 = nI a)) (S.2.2 1 - nb)
    rw [m1, m2, m3, i_lt, i_lt, i_n (by omega), i_n (by omega), i_0, i_1]
    omega
/-- what the rules say of a bout of the latest round -/
theorem tiS.rule (h : tiS S F nw nb r) (hR : rlS G S) {q a c : Nat} (hq : q < nb) (h4 : F.2 4 q = nI a) (h5 : F.2 5 q = nI c) (ha : a < nw) (hc : c < nw) : ruW S (tsV G) (bt S (S.2.2 1 - nb + q)) = ruG G F a c := by
  have hl := h.lf hq h4 h5 ha hc
  have key : ∀ d x, d + x = nrV G → ruF S (tsV G) (bt S (S.2.2 1 - nb + q)) d x = rlF G F a c d x := by
    intro d
    induction d with
    | zero => intro x _; rfl
    | succ d ih =>
      intro x hx
      have e1 : ruF S (tsV G) (bt S (S.2.2 1 - nb + q)) (d + 1) x = if (∀ t, tsV G x = some t → trV S (bt S (S.2.2 1 - nb + q)) 4 t = 1) then S.2.1 3 x else ruF S (tsV G) (bt S (S.2.2 1 - nb + q)) d (x + 1) := rfl
      have e2 : rlF G F a c (d + 1) x = if (∀ t, tsV G x = some t → ¬ trF F a c 4 t = 0) then nI (outV G x) else rlF G F a c d (x + 1) := rfl
      have e3 : (∀ t, tsV G x = some t → trV S (bt S (S.2.2 1 - nb + q)) 4 t = 1) ↔ (∀ t, tsV G x = some t → ¬ trF F a c 4 t = 0) := by
        have g : ∀ t, tsV G x = some t → (trV S (bt S (S.2.2 1 - nb + q)) 4 t = 1 ↔ ¬ trF F a c 4 t = 0) := fun t ht => by
          have e := tsV_k ht
          have hK : trK 4 t := by rw [e]; exact tsT_K 4 _ 0
          have hW : trW 4 t := by rw [e]; exact tsT_W 3 _ 0 (by omega) (by omega)
          have hT : trT 4 t := by rw [e]; exact tsT_T 3 _ 0 (by omega) (by omega)
          obtain ⟨z1, z2⟩ := tr_tie hl 4 t hK hW hT
          have h20 : 20 ≤ t.1.1 := by rw [e]; exact tsK_lt.1
          have z3 : b01 (trF F a c 4 t) := z2 h20
          rw [z1]
          rcases z3 with z | z <;> rw [z]
          · exact ⟨fun y => absurd y (by decide), fun y => absurd rfl y⟩
          · exact ⟨fun _ => by decide, fun _ => rfl⟩
        exact ⟨fun y t ht => (g t ht).mp (y t ht), fun y t ht => (g t ht).mpr (y t ht)⟩
      rw [e1, e2]
      by_cases z : (∀ t, tsV G x = some t → ¬ trF F a c 4 t = 0)
      · rw [if_pos (e3.mpr z), if_pos z]; exact hR.2 x (by omega)
      · rw [if_neg (fun y => z (e3.mp y)), if_neg z]; exact ih (x + 1) (by omega)
  show ruF S (tsV G) _ (S.2.2 6) 0 = rlF G F a c (nrV G) 0
  rw [hR.1]
  exact key (nrV G) 0 (by omega)
/-- all bouts are told by the rules -/
theorem tiS.tellAll (h : tiS S F nw nb r) (hR : rlS G S) : tiS (tlS S (tsV G) (S.2.2 1)) (tlP (ruG G) nb 0 F 0).1 nw nb r ∧ bx_sum (tlF S (tsV G)) (S.2.2 1) = (tlP (ruG G) nb 0 F 0).2 := by
  have h' := h
  obtain ⟨⟨s0, s5, s3, n2, n6⟩, hok, hC, ⟨b1, b2, b3, b4⟩, hN, ⟨l1, l2, l3⟩⟩ := h'
  obtain ⟨N, hNe⟩ : ∃ N, N = S.2.2 1 := ⟨_, rfl⟩
  have old : ∀ m, m ≤ N - nb → tlS S (tsV G) m = S ∧ bx_sum (tlF S (tsV G)) m = 0 := by
    intro m
    induction m with
    | zero => intro _; exact ⟨rfl, rfl⟩
    | succ m ih =>
      intro hm
      obtain ⟨i1, i2⟩ := ih (by omega)
      obtain ⟨u, a, c, hb, hu, d1, -⟩ := b3 m (by omega)
      have ht : 0 ≤ bt S m 3 := by
        have z := (d1 (by omega)).2
        rcases hb.2.2.2.2.2.2.1 with y | y | y | y
        · exact absurd y z
        · rw [y]; decide
        · rw [y]; decide
        · rw [y]; decide
      refine ⟨?_, ?_⟩
      · rw [tlS_y (by rw [i1]; exact ht), i1]
      · rw [bx_s, i2]; unfold tlF; rw [i1, if_pos ht]; rfl
  have key : ∀ d q (F : xS) (c : Int32), q + d = nb → tiS (tlS S (tsV G) (N - nb + q)) F nw nb r → c = bx_sum (tlF S (tsV G)) (N - nb + q) → tiS (tlS S (tsV G) N) (tlP (ruG G) d q F c).1 nw nb r ∧ (tlP (ruG G) d q F c).2 = bx_sum (tlF S (tsV G)) N := by
    intro d
    induction d with
    | zero =>
      intro q F c hq hT hc
      rw [show N - nb + q = N by omega] at hT hc
      exact ⟨hT, hc⟩
    | succ d ih =>
      intro q F c hq hT hc
      have hT' := hT
      obtain ⟨-, hok2, -, ⟨-, -, -, B4⟩, -⟩ := hT'
      obtain ⟨T1, T2, T3, T4⟩ := tlS_1 (S := S) (tt := tsV G) (N - nb + q)
      have eN : (tlS S (tsV G) (N - nb + q)).2.2 1 = N := by rw [T2]; exact hNe.symm
      rw [eN] at B4
      obtain ⟨f4, f5, f6⟩ := B4 q (by omega)
      obtain ⟨a, b, g4, ga, g5, gb, gab⟩ := hok2.2.2.2.2.2.2.1 q (by omega)
      have ca : (F.2 4 q).toNatClampNeg = a := by rw [g4]; exact nI_clamp (by omega)
      have cb : (F.2 5 q).toNatClampNeg = b := by rw [g5]; exact nI_clamp (by omega)
      show tiS (tlS S (tsV G) N) (if F.2 6 q = -1 then tlP (ruG G) d (q + 1) (tellF F q (F.2 4 q).toNatClampNeg (F.2 5 q).toNatClampNeg (ruG G F (F.2 4 q).toNatClampNeg (F.2 5 q).toNatClampNeg)) (c + (if ruG G F (F.2 4 q).toNatClampNeg (F.2 5 q).toNatClampNeg = 0 then 1 else 0)) else tlP (ruG G) d (q + 1) F c).1 nw nb r ∧ (if F.2 6 q = -1 then tlP (ruG G) d (q + 1) (tellF F q (F.2 4 q).toNatClampNeg (F.2 5 q).toNatClampNeg (ruG G F (F.2 4 q).toNatClampNeg (F.2 5 q).toNatClampNeg)) (c + (if ruG G F (F.2 4 q).toNatClampNeg (F.2 5 q).toNatClampNeg = 0 then 1 else 0)) else tlP (ruG G) d (q + 1) F c).2 = bx_sum (tlF S (tsV G)) N
      rw [ca, cb]
      by_cases ho : F.2 6 q = -1
      · rw [if_pos ho]
        have hR2 : rlS G (tlS S (tsV G) (N - nb + q)) := ⟨by rw [T2]; exact hR.1, fun x hx => by rw [T3 3 (by omega)]; exact hR.2 x hx⟩
        have er := hT.rule hR2 (by omega) g4 g5 ga gb
        rw [eN] at er
        have hneg : ¬ 0 ≤ bt (tlS S (tsV G) (N - nb + q)) (N - nb + q) 3 := by rw [← f6, ho]; decide
        have hstep := tlS_n (S := S) (tt := tsV G) (i := N - nb + q) hneg
        rw [er] at hstep
        have hv := ruG_v (G := G) F a b
        have z := hT.tell (q := q) (a := a) (c := b) (v := ruG G F a b) (by omega) ho g4 g5 ga gb hv
        rw [eN] at z
        refine ih (q + 1) _ _ (by omega) ?_ ?_
        · rw [← Nat.add_assoc, hstep]; exact z
        · rw [← Nat.add_assoc, bx_s, hc]
          congr 1
          unfold tlF
          rw [if_neg hneg, er]
      · rw [if_neg ho]
        have hpos : 0 ≤ bt (tlS S (tsV G) (N - nb + q)) (N - nb + q) 3 := by
          rw [← f6]
          rcases hok2.2.2.2.2.2.2.2.2 q (by omega) with y | y | y | y
          · exact absurd y ho
          · rw [y]; decide
          · rw [y]; decide
          · rw [y]; decide
        refine ih (q + 1) _ _ (by omega) ?_ ?_
        · rw [← Nat.add_assoc, tlS_y hpos]; exact hT
        · rw [← Nat.add_assoc, bx_s, hc]
          unfold tlF
          rw [if_pos hpos]; grind
  obtain ⟨o1, o2⟩ := old (N - nb) (Nat.le_refl _)
  have z := key nb 0 F 0 (by omega) (by rw [Nat.add_zero, o1]; exact h) (by rw [Nat.add_zero, o2])
  rw [← hNe]
  exact ⟨z.1, z.2.symm⟩
/-- open bouts, who is in -/
theorem tiS.op (h : tiS S F nw nb r) : bx_sum (opF2 S) (S.2.2 1) = bx_sum (opn (F.2 6)) nb ∧ bx_sum (inF S) nw = bx_sum (fun w => F.2 2 (8 * 12 + w)) nw := by
  obtain ⟨⟨s0, s5, s3, n2, n6⟩, hok, hC, ⟨b1, b2, b3, b4⟩, hN, ⟨l1, l2, l3⟩⟩ := h
  refine ⟨?_, bx_c nw (fun w hw => ?_)⟩
  · have eN : S.2.2 1 = (S.2.2 1 - nb) + nb := by omega
    rw [eN, bx_app, bx_z (S.2.2 1 - nb) (fun i hi => by
      obtain ⟨u, a, c, hb, hu, d1, -⟩ := b3 i (by omega)
      have z := (d1 (by omega)).2
      unfold opF2
      rw [if_pos]
      rcases hb.2.2.2.2.2.2.1 with y | y | y | y
      · exact absurd y z
      · rw [y]; decide
      · rw [y]; decide
      · rw [y]; decide)]
    rw [bx_c (g := opn (F.2 6)) nb (fun p hp => by
      obtain ⟨-, -, f6⟩ := b4 p hp
      unfold opF2 opn
      rw [← f6]
      rcases hok.2.2.2.2.2.2.2.2 p hp with y | y | y | y <;> rw [y] <;> decide)]
    grind
  · unfold inF
    rcases hC.2.1 w hw with ⟨z1, z2⟩ | ⟨z1, z2⟩
    · rw [z1, z2]; rfl
    · rw [z1, z2]; rfl
theorem tiS.can (h : tiS S F nw nb r) : (bx_sum (opF2 S) (S.2.2 1) = 0 ∧ ¬ 20 ≤ S.1 5 ∧ ¬ bx_sum (inF S) nw ≤ 1) ↔ canB F nw nb = true := by
  obtain ⟨e1, e2⟩ := h.op
  obtain ⟨⟨s0, s5, s3, n2, n6⟩, hok, -⟩ := h
  rw [canB_i, e1, e2, s5, hok.2.2.1.1]
  have g1 : (¬ (20 : Int32) ≤ nI r) ↔ nI r < 20 := Int32.not_le
  have g2 : ∀ x : Int32, ¬ x ≤ 1 ↔ ¬ x < 2 := fun x => by rw [i_le, i_lt, i_1, i_2]; omega
  rw [g1, g2]
end XTH
