/-! THE LAW: what it asks of the class, as facts of the bouts -/
section XLQ
variable {n : Nat} {k j i q s e t d p b h : Nat} {S S' : sS} {F F' : xS} {nw nb r : Nat} {G : xx_G}
/-- whom w met, added, is how many bouts w had -/
theorem met_sum (hC : tiC S F nw) (hB : btA S nw) (h12 : nw ≤ 12) {w : Nat} (hw : w < nw) : bx_sum (fun o => F.2 3 (w * 12 + o)) nw = nI (bwN S w) := by
  have e1 : bx_sum (fun o => F.2 3 (w * 12 + o)) nw = bx_sum (fun o => bx_sum (fun i => mtF S (nI w) (nI o) 99 i) (S.2.2 1)) nw := bx_c nw (fun o ho => hC.2.2.2 w o hw ho)
  rw [e1, bx_sw]
  refine bx_cn (S.2.2 1) (fun i hi => ?_)
  obtain ⟨u, a, c, hb, hu⟩ := hB i hi
  have e2 : bx_sum (fun o => mtF S (nI w) (nI o) 99 i) nw = bx_sum (fun o => if (a = w ∧ c = o) ∨ (a = o ∧ c = w) then 1 else 0) nw := bx_c nw (fun o ho => mtF_v hb hu h12 hw ho)
  obtain ⟨h0, h1, h2, h3, h4, h5, -⟩ := hb
  rw [e2, h1, h2]
  have i1 : nI a = nI w ↔ a = w := nI_ij (by omega) (by omega)
  have i2 : nI c = nI w ↔ c = w := nI_ij (by omega) (by omega)
  by_cases ca : a = w
  · subst ca
    rw [bx_one nw h4 (fun o ho hn => if_neg (by omega)), if_pos (Or.inl ⟨rfl, rfl⟩), if_pos (Or.inl rfl)]
  by_cases cc : c = w
  · subst cc
    rw [bx_one nw h3 (fun o ho hn => if_neg (by omega)), if_pos (Or.inr ⟨rfl, rfl⟩), if_pos (Or.inr rfl)]
  · rw [bx_z nw (fun o ho => if_neg (by omega)), if_neg (fun z => z.elim (fun y => ca (i1.mp y)) (fun y => cc (i2.mp y)))]
theorem mn_cn {w : Nat} {x : Int32} : mnS S (nI w) x = nI (cnN (fun i => 0 ≤ bt S i 3 ∧ ((bt S i 1 = nI w ∧ bt S i 3 = x) ∨ (bt S i 2 = nI w ∧ bt S i 3 = 2 - x))) (S.2.2 1)) := bx_cn _ (fun i _ => rfl)
theorem bw_le {w : Nat} : bwN S w ≤ S.2.2 1 := cnN_le _
/-- wins, draws and losses are no more than bouts -/
theorem wdl_le (hB : btA S nw) (h12 : nw ≤ 12) {w : Nat} (hw : w < nw) : ∃ x y z, mnS S (nI w) 0 = nI x ∧ mnS S (nI w) 1 = nI y ∧ mnS S (nI w) 2 = nI z ∧ x + y + z ≤ bwN S w := by
  refine ⟨_, _, _, mn_cn, mn_cn, mn_cn, ?_⟩
  have h1 := cnN_or (P := fun i => 0 ≤ bt S i 3 ∧ ((bt S i 1 = nI w ∧ bt S i 3 = 0) ∨ (bt S i 2 = nI w ∧ bt S i 3 = 2 - 0))) (Q := fun i => 0 ≤ bt S i 3 ∧ ((bt S i 1 = nI w ∧ bt S i 3 = 1) ∨ (bt S i 2 = nI w ∧ bt S i 3 = 2 - 1))) (R := fun i => (0 ≤ bt S i 3 ∧ ((bt S i 1 = nI w ∧ bt S i 3 = 0) ∨ (bt S i 2 = nI w ∧ bt S i 3 = 2 - 0))) ∨ (0 ≤ bt S i 3 ∧ ((bt S i 1 = nI w ∧ bt S i 3 = 1) ∨ (bt S i 2 = nI w ∧ bt S i 3 = 2 - 1)))) (S.2.2 1) (fun i hi => ⟨Or.inl, Or.inr, fun z => by
    obtain ⟨u, a, c, hb, hu⟩ := hB i hi
    obtain ⟨h0, h1, h2, h3, h4, h5, -⟩ := hb
    rw [h1, h2] at z
    obtain ⟨⟨-, z1⟩, -, z2⟩ := z
    have e0 : (2 - 0 : Int32) = 2 := rfl
    have e1 : (2 - 1 : Int32) = 1 := rfl
    rw [e0, e1, nI_ij (by omega) (by omega), nI_ij (by omega) (by omega)] at *
    rcases z1 with ⟨y1, y2⟩ | ⟨y1, y2⟩ <;> rcases z2 with ⟨x1, x2⟩ | ⟨x1, x2⟩ <;> rw [y2] at x2 <;> exact absurd x2 (by decide)⟩)
  have h2 := cnN_or (P := fun i => (0 ≤ bt S i 3 ∧ ((bt S i 1 = nI w ∧ bt S i 3 = 0) ∨ (bt S i 2 = nI w ∧ bt S i 3 = 2 - 0))) ∨ (0 ≤ bt S i 3 ∧ ((bt S i 1 = nI w ∧ bt S i 3 = 1) ∨ (bt S i 2 = nI w ∧ bt S i 3 = 2 - 1)))) (Q := fun i => 0 ≤ bt S i 3 ∧ ((bt S i 1 = nI w ∧ bt S i 3 = 2) ∨ (bt S i 2 = nI w ∧ bt S i 3 = 2 - 2))) (R := fun i => bt S i 1 = nI w ∨ bt S i 2 = nI w) (S.2.2 1) (fun i hi => ⟨fun z => by
    rcases z with ⟨-, z | z⟩ | ⟨-, z | z⟩
    · exact Or.inl z.1
    · exact Or.inr z.1
    · exact Or.inl z.1
    · exact Or.inr z.1, fun z => z.2.elim (fun y => Or.inl y.1) (fun y => Or.inr y.1), fun z => by
    obtain ⟨u, a, c, hb, hu⟩ := hB i hi
    obtain ⟨h0, h1, h2, h3, h4, h5, -⟩ := hb
    have e0 : (2 - 0 : Int32) = 2 := rfl
    have e1 : (2 - 1 : Int32) = 1 := rfl
    have e2 : (2 - 2 : Int32) = 0 := rfl
    have i1 : nI a = nI w ↔ a = w := nI_ij (by omega) (by omega)
    have i2 : nI c = nI w ↔ c = w := nI_ij (by omega) (by omega)
    rw [h1, h2, e0, e1, e2, i1, i2] at z
    obtain ⟨z1, -, z2⟩ := z
    rcases z1 with ⟨-, ⟨y1, y2⟩ | ⟨y1, y2⟩⟩ | ⟨-, ⟨y1, y2⟩ | ⟨y1, y2⟩⟩ <;> rcases z2 with ⟨x1, x2⟩ | ⟨x1, x2⟩ <;> first | (exact absurd (y1.trans x1.symm) (by omega)) | (rw [y2] at x2; exact absurd x2 (by decide))⟩)
  show _ ≤ cnN (fun i => bt S i 1 = nI w ∨ bt S i 2 = nI w) (S.2.2 1)
  omega
theorem rs_cn {w : Nat} : rsS S (nI w) = nI (rsN S w) := bx_cn _ (fun i _ => rfl)
theorem bl_le {w : Nat} (hN : S.2.2 1 < 1000) : (blS S (nI w)).toInt ≤ bwN S w ∧ -(bwN S w : Int) ≤ (blS S (nI w)).toInt := bx_pm (P := fun i => bt S i 1 = nI w) (Q := fun i => bt S i 2 = nI w) (S.2.2 1) hN (fun i _ => rfl)
theorem fl_le (hB : btA S nw) {w : Nat} (hw : w < nw) (h12 : nw ≤ 12) : ∃ x, flS S (nI w) = nI x ∧ x ≤ bwN S w := by
  refine ⟨cnN (fun i => bt S i 4 = nI w) (S.2.2 1), bx_cn _ (fun i _ => rfl), cnN_le2 _ (fun i hi z => ?_)⟩
  obtain ⟨u, a, c, hb, hu⟩ := hB i hi
  obtain ⟨h0, h1, h2, h3, h4, h5, -, h7⟩ := hb
  rcases h7 with y | y | y
  · rw [y] at z; exact absurd z.symm (nI_m1 (by omega))
  · exact Or.inl (by rw [h1, ← y]; exact z)
  · exact Or.inr (by rw [h2, ← y]; exact z)
/-- as many wins as losses -/
theorem win_los (hC : tiC S F nw) (hB : btA S nw) (h12 : nw ≤ 12) : bx_sum (fun w => F.2 2 (2 * 12 + w)) nw = bx_sum (fun w => F.2 2 (4 * 12 + w)) nw := by
  have e1 : bx_sum (fun w => F.2 2 (2 * 12 + w)) nw = bx_sum (fun w => bx_sum (fun i => mnF S (nI w) 0 i) (S.2.2 1)) nw := bx_c nw (fun w hw => (hC.1 w hw).2.2.1)
  have e2 : bx_sum (fun w => F.2 2 (4 * 12 + w)) nw = bx_sum (fun w => bx_sum (fun i => mnF S (nI w) 2 i) (S.2.2 1)) nw := bx_c nw (fun w hw => (hC.1 w hw).2.2.2.2.1)
  rw [e1, e2, bx_sw (f := fun w i => mnF S (nI w) 0 i), bx_sw (f := fun w i => mnF S (nI w) 2 i)]
  refine bx_c _ (fun i hi => ?_)
  obtain ⟨u, a, c, hb, hu⟩ := hB i hi
  obtain ⟨h0, h1, h2, h3, h4, h5, h6, -⟩ := hb
  have key : ∀ (x : Int32) (y : Nat), y < nw → (∀ w, w < nw → mnF S (nI w) x i = if w = y then 1 else 0) → bx_sum (fun w => mnF S (nI w) x i) nw = 1 := fun x y hy hf => by
    rw [bx_one nw hy (fun w hw hn => by rw [hf w hw, if_neg hn]), hf y hy, if_pos rfl]
  have ia : ∀ w, w < nw → (nI a = nI w ↔ w = a) := fun w hw => (nI_ij (by omega) (by omega)).trans eq_comm
  have ic : ∀ w, w < nw → (nI c = nI w ↔ w = c) := fun w hw => (nI_ij (by omega) (by omega)).trans eq_comm
  have mv : ∀ w x, mnF S (nI w) x i = if 0 ≤ bt S i 3 ∧ ((nI a = nI w ∧ bt S i 3 = x) ∨ (nI c = nI w ∧ bt S i 3 = 2 - x)) then 1 else 0 := fun w x => by unfold mnF; rw [h1, h2]
  have cf : ∀ (P Q : Prop) [Decidable P] [Decidable Q], (P ↔ Q) → (if P then (1 : Int32) else 0) = if Q then 1 else 0 := fun P Q _ _ hpq => by
    by_cases z : P
    · rw [if_pos z, if_pos (hpq.mp z)]
    · rw [if_neg z, if_neg (fun y => z (hpq.mpr y))]
  rcases h6 with z | z | z | z
  · rw [bx_z nw (fun w hw => by rw [mv, z, if_neg (fun y => absurd y.1 (by decide))]), bx_z nw (fun w hw => by rw [mv, z, if_neg (fun y => absurd y.1 (by decide))])]
  · rw [key 0 a h3 (fun w hw => by rw [mv, z]; refine cf _ _ ?_; rw [ia w hw]; exact ⟨fun y => y.2.elim (fun x => x.1) (fun x => absurd x.2 (by decide)), fun y => ⟨by decide, Or.inl ⟨y, rfl⟩⟩⟩), key 2 c h4 (fun w hw => by rw [mv, z]; refine cf _ _ ?_; rw [ic w hw]; exact ⟨fun y => y.2.elim (fun x => absurd x.2 (by decide)) (fun x => x.1), fun y => ⟨by decide, Or.inr ⟨y, rfl⟩⟩⟩)]
  · rw [bx_z nw (fun w hw => by rw [mv, z, if_neg (fun y => y.2.elim (fun x => absurd x.2 (by decide)) (fun x => absurd x.2 (by decide)))]), bx_z nw (fun w hw => by rw [mv, z, if_neg (fun y => y.2.elim (fun x => absurd x.2 (by decide)) (fun x => absurd x.2 (by decide)))])]
  · rw [key 0 c h4 (fun w hw => by rw [mv, z]; refine cf _ _ ?_; rw [ic w hw]; exact ⟨fun y => y.2.elim (fun x => absurd x.2 (by decide)) (fun x => x.1), fun y => ⟨by decide, Or.inr ⟨y, rfl⟩⟩⟩), key 2 a h3 (fun w hw => by rw [mv, z]; refine cf _ _ ?_; rw [ia w hw]; exact ⟨fun y => y.2.elim (fun x => x.1) (fun x => absurd x.2 (by decide)), fun y => ⟨by decide, Or.inl ⟨y, rfl⟩⟩⟩)]
/-- belts of all add up to 0 -/
theorem blt_0 (hC : tiC S F nw) (hB : btA S nw) (h12 : nw ≤ 12) : bx_sum (fun w => F.2 2 (6 * 12 + w)) nw = 0 := by
  have e1 : bx_sum (fun w => F.2 2 (6 * 12 + w)) nw = bx_sum (fun w => bx_sum (fun i => blF S (nI w) i) (S.2.2 1)) nw := bx_c nw (fun w hw => (hC.1 w hw).2.2.2.2.2.2.1)
  rw [e1, bx_sw]
  refine bx_z _ (fun i hi => ?_)
  obtain ⟨u, a, c, hb, hu⟩ := hB i hi
  obtain ⟨h0, h1, h2, h3, h4, h5, h6, -⟩ := hb
  have mv : ∀ w, w < nw → blF S (nI w) i = (if w = a then 1 else 0) + (if w = c then -1 else 0) := fun w hw => by
    unfold blF
    rw [h1, h2]
    have ia : nI a = nI w ↔ w = a := (nI_ij (by omega) (by omega)).trans eq_comm
    have ic : nI c = nI w ↔ w = c := (nI_ij (by omega) (by omega)).trans eq_comm
    by_cases ca : w = a
    · rw [if_pos (ia.mpr ca), if_pos ca, if_neg (by omega)]; rfl
    · rw [if_neg (fun y => ca (ia.mp y)), if_neg ca]
      by_cases cc : w = c
      · rw [if_pos (ic.mpr cc), if_pos cc]; rfl
      · rw [if_neg (fun y => cc (ic.mp y)), if_neg cc]; rfl
  rw [bx_c nw mv, bx_add, bx_one nw h3 (fun w _ hn => if_neg hn), bx_one nw h4 (fun w _ hn => if_neg hn), if_pos rfl, if_pos rfl]
  rfl
/-- nobody meets oneself -/
theorem met_self (hC : tiC S F nw) (hB : btA S nw) (h12 : nw ≤ 12) {w : Nat} (hw : w < nw) : F.2 3 (w * 12 + w) = 0 := by
  rw [hC.2.2.2 w w hw hw]
  refine bx_z _ (fun i hi => ?_)
  obtain ⟨u, a, c, hb, hu⟩ := hB i hi
  rw [mtF_v hb hu h12 hw hw]
  obtain ⟨h0, h1, h2, h3, h4, h5, -⟩ := hb
  exact if_neg (by omega)
theorem met_sym (hC : tiC S F nw) {w v : Nat} (hw : w < nw) (hv : v < nw) : F.2 3 (w * 12 + v) = F.2 3 (v * 12 + w) := by
  rw [hC.2.2.2 w v hw hv, hC.2.2.2 v w hv hw, mtS_sym]
/-- ranks -/
theorem rank_at {w : Nat} (hw : w < nw) : rkN (f_R F nw) nw w < nw ∧ (lsF F nw).getD (rkN (f_R F nw) nw w) 0 = w := by
  have hls := lsF_ok F nw
  obtain ⟨p, hp, e⟩ := hls.ex hw
  have z := hls.rank (ahd_sto _ _ _) hp
  rw [e] at z
  have z : rkN (f_R F nw) nw w = p := z
  rw [z]; exact ⟨hp, e⟩
theorem ls_at {x : Nat} (hx : x < nw) : (lsF F nw).getD x 0 < nw := by
  have hls := lsF_ok F nw
  have hl : (lsF F nw).length = nw := by rw [hls.1.length_eq, List.length_range]
  exact List.mem_range.mp (hls.1.mem_iff.mp (by rw [getD_at (by omega)]; exact List.getElem_mem _))
/-- who stands ahead has no fewer points -/
theorem pts_le {x y : Nat} (hxy : x < y) (hy : y < nw) : F.2 2 (1 * 12 + (lsF F nw).getD y 0) ≤ F.2 2 (1 * 12 + (lsF F nw).getD x 0) := by
  have hls := lsF_ok F nw
  have hl : (lsF F nw).length = nw := by rw [hls.1.length_eq, List.length_range]
  have z := List.pairwise_iff_getElem.mp hls.2 x y (by omega) (by omega) hxy
  rw [getD_at (by omega), getD_at (by omega)]
  unfold f_R ahd at z
  by_cases g : f_pts F (lsF F nw)[x] = f_pts F (lsF F nw)[y]
  · have g : F.2 2 (1 * 12 + (lsF F nw)[x]) = F.2 2 (1 * 12 + (lsF F nw)[y]) := g
    rw [g, i_le]; exact Int.le_refl _
  · rw [if_neg g, decide_eq_true_eq] at z
    exact Int32.le_of_lt z
theorem pts_top {w : Nat} (hw : w < nw) : F.2 2 (1 * 12 + w) ≤ F.2 2 (1 * 12 + (lsF F nw).getD 0 0) := by
  obtain ⟨h1, h2⟩ := rank_at (F := F) hw
  by_cases c : rkN (f_R F nw) nw w = 0
  · rw [c] at h2; rw [h2, i_le]; exact Int.le_refl _
  · have z := pts_le (F := F) (x := 0) (y := rkN (f_R F nw) nw w) (by omega) h1
    rw [h2] at z; exact z
/-- telling a bout leaves the others as they were -/
theorem tell_oth {q i j w c : Nat} {v : Int32} (hi : i < 12) (hj : j < 12) (hw : w < 12) (hij : ¬ i = j) (hv : v = 0 ∨ v = 1 ∨ v = 2) (h1 : ¬ w = i) (h2 : ¬ w = j) : (tellF F q i j v).2 2 (c * 12 + w) = F.2 2 (c * 12 + w) := by
  have hz : ∀ x : Int32, x + 0 = x := fun x => by grind
  have z1 : ¬ i = w := fun y => h1 y.symm
  have z2 : ¬ j = w := fun y => h2 y.symm
  obtain ⟨t2, t3, t4⟩ := tell_cnt (F := F) (q := q) hi hj hw hij hv
  by_cases c1 : c = 1
  · subst c1
    rw [tell_pts hi hj hw hij]
    by_cases v1 : v = 1
    · rw [if_pos v1, if_neg (fun y => y.elim h1 h2)]
    · rw [if_neg v1, if_neg]
      split
      · exact h1
      · exact h2
  by_cases c2 : c = 2
  · subst c2; rw [t2, if_neg (fun y => y.elim (fun x => z1 x.1) (fun x => z2 x.1)), hz]
  by_cases c3 : c = 3
  · subst c3; rw [t3, if_neg (fun y => y.elim (fun x => z1 x.1) (fun x => z2 x.1)), hz]
  by_cases c4 : c = 4
  · subst c4; rw [t4, if_neg (fun y => y.elim (fun x => z1 x.1) (fun x => z2 x.1)), hz]
  exact tell_in hi hj hw c1 c2 c3 c4
/-- whether a bout would be a red win by the rules -/
def redT (G : xx_G) (F : xS) (q : Nat) : Int32 := if F.2 6 q = -1 ∧ ruG G F (F.2 4 q).toNatClampNeg (F.2 5 q).toNatClampNeg = 0 then 1 else 0
/-- what the rules tell is what they said ahead -/
theorem red_eq (hT : tiS S F nw nb r) (h12 : nw ≤ 12) : (tlP (ruG G) nb 0 F 0).2 = bx_sum (redT G F) nb ∧ ∀ w, w < nw → (tlP (ruG G) nb 0 F 0).1.2 2 (8 * 12 + w) = F.2 2 (8 * 12 + w) := by
  have hbd := hT.2.1.2.2.2.2.2.2.1
  have hl := hT.2.2.2.2.2.1
  have key : ∀ d x (X : xS) (c : Int32), x + d = nb → (X.1 = F.1 ∧ X.2 3 = F.2 3 ∧ X.2 4 = F.2 4 ∧ X.2 5 = F.2 5) → (∀ q, x ≤ q → q < nb → X.2 6 q = F.2 6 q) → (∀ q, x ≤ q → q < nb → ∀ w, w < nw → (F.2 4 q = nI w ∨ F.2 5 q = nI w) → ∀ cc, X.2 2 (cc * 12 + w) = F.2 2 (cc * 12 + w)) → (∀ w, w < nw → X.2 2 (8 * 12 + w) = F.2 2 (8 * 12 + w)) → c = bx_sum (redT G F) x → (tlP (ruG G) d x X c).2 = bx_sum (redT G F) nb ∧ ∀ w, w < nw → (tlP (ruG G) d x X c).1.2 2 (8 * 12 + w) = F.2 2 (8 * 12 + w) := by
    intro d
    induction d with
    | zero =>
      intro x X c hx _ _ _ h8 hc
      have e : x = nb := by omega
      subst e
      exact ⟨hc, h8⟩
    | succ d ih =>
      intro x X c hx hk h6 h2 h8 hc
      obtain ⟨k1, k3, k4, k5⟩ := hk
      obtain ⟨a, b, ga, ha, gb, hb, hab⟩ := hbd x (by omega)
      have ca : (F.2 4 x).toNatClampNeg = a := by rw [ga]; exact nI_clamp (by omega)
      have cb : (F.2 5 x).toNatClampNeg = b := by rw [gb]; exact nI_clamp (by omega)
      have ag : agT X F a b := ⟨by rw [k1], fun cc _ => ⟨h2 x (Nat.le_refl _) (by omega) a ha (Or.inl ga) cc, h2 x (Nat.le_refl _) (by omega) b hb (Or.inr gb) cc⟩, by rw [k3]⟩
      have er : ruG G X a b = ruG G F a b := ruG_a ag
      have e6 := h6 x (Nat.le_refl _) (by omega)
      have hstep : tlP (ruG G) (d + 1) x X c = if X.2 6 x = -1 then tlP (ruG G) d (x + 1) (tellF X x (X.2 4 x).toNatClampNeg (X.2 5 x).toNatClampNeg (ruG G X (X.2 4 x).toNatClampNeg (X.2 5 x).toNatClampNeg)) (c + (if ruG G X (X.2 4 x).toNatClampNeg (X.2 5 x).toNatClampNeg = 0 then 1 else 0)) else tlP (ruG G) d (x + 1) X c := rfl
      rw [hstep, k4, k5, ca, cb, e6, er]
      have eT : redT G F x = if F.2 6 x = -1 ∧ ruG G F a b = 0 then 1 else 0 := by unfold redT; rw [ca, cb]
      by_cases ho : F.2 6 x = -1
      · rw [if_pos ho]
        have hv := ruG_v (G := G) F a b
        obtain ⟨f1, f2, f3⟩ := tellF_k (F := X) (q := x) (i := a) (j := b) (v := ruG G F a b)
        refine ih (x + 1) _ _ (by omega) ⟨f1.trans k1, (f2 3 (by omega) (by omega)).trans k3, (f2 4 (by omega) (by omega)).trans k4, (f2 5 (by omega) (by omega)).trans k5⟩ (fun q hq hq2 => ?_) (fun q hq hq2 w hw hm cc => ?_) (fun w hw => ?_) ?_
        · rw [f3]
          simp only [upd]
          rw [if_neg (by omega)]
          exact h6 q (by omega) hq2
        · have z1 := hl x q (by omega) hq2 (by omega)
          have z2 := hl q x hq2 (by omega) (by omega)
          have n1 : ¬ w = a := fun y => by
            rw [ga] at z1 z2
            rw [← y] at z1 z2
            rcases hm with m | m
            · exact z1.1 m.symm
            · exact z1.2.1 m.symm
          have n2 : ¬ w = b := fun y => by
            rw [gb] at z1 z2
            rw [← y] at z1 z2
            rcases hm with m | m
            · exact z2.2.1 m
            · exact z1.2.2 m.symm
          rw [tell_oth (by omega) (by omega) (by omega) hab hv n1 n2]
          exact h2 q (by omega) hq2 w hw hm cc
        · rw [tell_in (by omega) (by omega) (by omega) (by omega) (by omega) (by omega) (by omega)]; exact h8 w hw
        · rw [hc, bx_s, eT]
          congr 1
          by_cases z : ruG G F a b = 0
          · rw [if_pos z, if_pos ⟨ho, z⟩]
          · rw [if_neg z, if_neg (fun y => z y.2)]
      · rw [if_neg ho]
        refine ih (x + 1) X c (by omega) ⟨k1, k3, k4, k5⟩ (fun q hq hq2 => h6 q (by omega) hq2) (fun q hq hq2 => h2 q (by omega) hq2) h8 ?_
        rw [hc, bx_s, eT, if_neg (fun y => ho y.1)]; grind
  exact key nb 0 F 0 (by omega) ⟨rfl, rfl, rfl, rfl⟩ (fun _ _ _ => rfl) (fun _ _ _ _ _ _ _ => rfl) (fun _ _ => rfl) rfl
/-- a round, told by the rules, leaves who is in -/
theorem rnd_8 (hT : tiS S' (roundF F nw) nw (npF F nw) (r + 1)) (h12 : nw ≤ 12) {w : Nat} (hw : w < nw) : (tlP (ruG G) (npF F nw) 0 (roundF F nw) 0).1.2 2 (8 * 12 + w) = F.2 2 (8 * 12 + w) := by
  rw [(red_eq (G := G) hT h12).2 w hw]
  obtain ⟨ra9, raw_, rq⟩ := rnd_at (F := F) h12
  obtain ⟨hpd, -⟩ := prD_F (F := F) h12
  obtain ⟨sl1, sl2, -⟩ := srL_cnt (F := sr_0 F (pX (npF F nw) (rsF F nw))) h12 hpd (npF F nw) (Nat.le_refl _)
  rw [(raw_ w (by omega)).2.2 8 (by omega) (by omega), (sl2 w (by omega)).2.2 8 (by omega) (by omega) (by omega)]
end XLQ
