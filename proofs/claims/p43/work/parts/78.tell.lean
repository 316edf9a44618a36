/-! Sim.ruled, tellAll -/
section XTL
variable {G : xx_G} {l : Launch} {A A' : xx_H} {n : Nat} {k j i q s e t d : Nat}
/-- the rules stand -/
def rulH (S : sS) (tt : Nat → Option (Tr 4)) (A : xx_H) : Prop := A (S.2.2 4) = some (.inl (0, S.2.2 6, .inl (S.2.1 3))) ∧ ∃ f, A (S.2.2 5) = some (.inl (5, S.2.2 6, .inr (.inr (.inr (.inr f))))) ∧ ∀ i, i < S.2.2 6 → (tt i = none ∧ f i = none) ∨ ∃ t v, tt i = some t ∧ f i = some v ∧ trA A 4 v t ∧ trK 4 t
def ruF (S : sS) (tt : Nat → Option (Tr 4)) (b : Nat → Int32) : Nat → Nat → Int32
  | 0, _ => 1
  | d + 1, i => if (∀ t, tt i = some t → trV S b 4 t = 1) then S.2.1 3 i else ruF S tt b d (i + 1)
/-- what the rules say of a bout -/
abbrev ruW (S : sS) (tt : Nat → Option (Tr 4)) (b : Nat → Int32) : Int32 := ruF S tt b (S.2.2 6) 0
theorem ruF_s {S : sS} {tt : Nat → Option (Tr 4)} {b : Nat → Int32} {m i : Nat} (h : i < m) : ruF S tt b (m - i) i = if (∀ t, tt i = some t → trV S b 4 t = 1) then S.2.1 3 i else ruF S tt b (m - (i + 1)) (i + 1) := by
  rw [show m - i = (m - (i + 1)) + 1 from by omega]
  rfl
abbrev b12 (b : Nat → Int32) : Prop := ∀ q, q < 2 → ∃ r, b (1 + q) = nI r ∧ r < 12
set_option maxRecDepth 100000 in
set_option maxHeartbeats 4000000 in
theorem c_X7_ruled (hst : l.stackTraces = false) {h : Nat} {S : sS} (hS : simW h S A) (hnb : S.2.2 1 < 1000) (hnr : S.2.2 3 < 1000) {w : Nat} {b : Nat → Int32} {tt : Nat → Option (Tr 4)} (hR : rulH S tt A) (h6 : S.2.2 6 < 100) (hw : A w = some (.inl (0, 5, .inl b))) (hb : b12 b) : xx_C G l yX7_ruled mX7_ruled 8 243 0 0 [.ref h, .ref w] A n (xx_ro (some (.int (ruW S tt b))) A n) := by
  have hS0 := hS
  obtain ⟨ho, p1, p2, p6, -, -, pr⟩ := hS
  obtain ⟨r1, fT, r2, r3⟩ := hR
  have en : (nI (S.2.2 6)).toInt = S.2.2 6 := i_n (by omega)
  refine J_C hst (by decide +kernel) rfl rfl rfl (Nat.le_of_ble_eq_true rfl) ?_
  show xx_J _ _ _ _ _ _ _ _ 0 [(0, _), (1, _)] [] _ _ _ _
  refine J_iconst (v := 0) dX7_ruled_0 (by decide) ?_
  refine J_istore_n (L' := [(2, _), (0, _), (1, _)]) dX7_ruled_1 rfl (by decide) rfl ?_
  have loop : ∀ i, i ≤ S.2.2 6 → ∀ x : Int32, x = nI i → ruW S tt b = ruF S tt b (S.2.2 6 - i) i → xx_J G l mX7_ruled 8 243 0 0 (xx_ro (some (.int (ruW S tt b))) A n) 2 [(2, .int x), (0, .ref h), (1, .ref w)] [] A n 0 0 := by
    refine xx_dn ?_ ?_
    · intro x hx hg
      have ex : x.toInt = S.2.2 6 := by rw [hx]; exact i_n (by omega)
      refine J_iload_n dX7_ruled_2 rfl rfl ?_
      refine J_aload_n dX7_ruled_3 rfl rfl ?_
      refine J_getf dX7_ruled_4 fl_X7_16 (ho) rfl ?_
      refine J_alen (v := nI (S.2.2 6)) dX7_ruled_7 r1 (by decide) rfl ?_
      refine J_icmp_ge (tgt := 48) dX7_ruled_8 rfl (fun h8 => ?_) (fun h8 => ?_)
      · refine J_iconst (v := 1) dX7_ruled_48 (by decide) ?_
        refine J_ireturn dX7_ruled_49 rfl rfl (by decide) (by decide) ?_
        exact ⟨by rw [hg, Nat.sub_self]; rfl, rfl, rfl⟩
      · first | (exfalso; simp only [i_lt, i_le, i_eq, i_0, i_1, i_2, i_3, i_4, i_5, i_6, i_8, i_9, i_10, i_12, i_16, i_20, i_m1] at h8; omega) | (exfalso; simp only [s_up, a_up, va_up, i_lt, i_le, i_eq, i_0, i_1, i_2, i_3, i_4, i_5, i_6, i_8, i_9, i_10, i_12, i_16, i_20, i_m1, ↓reduceIte, Nat.reduceEqDiff] at h8; omega)
    · intro i hii ih x hx hg
      have ex : x.toInt = i := by rw [hx]; exact i_n (by omega)
      rw [ruF_s hii] at hg
      rcases r3 i hii with ⟨t1, t2⟩ | ⟨t, v, t1, t2, t3, t4⟩
      · refine J_iload_n dX7_ruled_2 rfl rfl ?_
        refine J_aload_n dX7_ruled_3 rfl rfl ?_
        refine J_getf dX7_ruled_4 fl_X7_16 (ho) rfl ?_
        refine J_alen (v := nI (S.2.2 6)) dX7_ruled_7 r1 (by decide) rfl ?_
        refine J_icmp_ge (tgt := 48) dX7_ruled_8 rfl (fun h8 => ?_) (fun h8 => ?_)
        · first | (exfalso; simp only [i_lt, i_le, i_eq, i_0, i_1, i_2, i_3, i_4, i_5, i_6, i_8, i_9, i_10, i_12, i_16, i_20, i_m1] at h8; omega) | (exfalso; simp only [s_up, a_up, va_up, i_lt, i_le, i_eq, i_0, i_1, i_2, i_3, i_4, i_5, i_6, i_8, i_9, i_10, i_12, i_16, i_20, i_m1, ↓reduceIte, Nat.reduceEqDiff] at h8; omega)
        · refine J_aload_n dX7_ruled_11 rfl rfl ?_
          refine J_getf dX7_ruled_12 fl_X7_21 (ho) rfl ?_
          refine J_iload_n dX7_ruled_15 rfl rfl ?_
          refine J_aaldK (v := none) (Or.inr (Or.inr (Or.inl rfl))) dX7_ruled_16 r2 (by rw [hx]; exact vp_in_nI hii (by omega)) (by rw [hx, nI_clamp (by omega)]; exact t2) ?_
          refine J_ifnullN (tgt := 35) dX7_ruled_17 rfl ?_
          refine J_aload_n dX7_ruled_35 rfl rfl ?_
          refine J_getf dX7_ruled_36 fl_X7_16 (ho) rfl ?_
          refine J_iload_n dX7_ruled_39 rfl rfl ?_
          refine J_ialdN i dX7_ruled_40 r1 hx hii (by omega) ?_
          refine J_ireturn dX7_ruled_41 rfl rfl (by decide) (by decide) ?_
          exact ⟨by rw [hg, if_pos (fun u hu => by rw [t1] at hu; cases hu)], rfl, rfl⟩
      · obtain ⟨fa9, ca⟩ := trA.cell _ _ _ t3
        have hch : (∀ u, tt i = some u → trV S b 4 u = 1) ↔ trV S b 4 t = 1 := ⟨fun z => z t t1, fun z u hu => by rw [t1] at hu; cases hu; exact z⟩
        refine J_iload_n dX7_ruled_2 rfl rfl ?_
        refine J_aload_n dX7_ruled_3 rfl rfl ?_
        refine J_getf dX7_ruled_4 fl_X7_16 (ho) rfl ?_
        refine J_alen (v := nI (S.2.2 6)) dX7_ruled_7 r1 (by decide) rfl ?_
        refine J_icmp_ge (tgt := 48) dX7_ruled_8 rfl (fun h8 => ?_) (fun h8 => ?_)
        · first | (exfalso; simp only [i_lt, i_le, i_eq, i_0, i_1, i_2, i_3, i_4, i_5, i_6, i_8, i_9, i_10, i_12, i_16, i_20, i_m1] at h8; omega) | (exfalso; simp only [s_up, a_up, va_up, i_lt, i_le, i_eq, i_0, i_1, i_2, i_3, i_4, i_5, i_6, i_8, i_9, i_10, i_12, i_16, i_20, i_m1, ↓reduceIte, Nat.reduceEqDiff] at h8; omega)
        · refine J_aload_n dX7_ruled_11 rfl rfl ?_
          refine J_getf dX7_ruled_12 fl_X7_21 (ho) rfl ?_
          refine J_iload_n dX7_ruled_15 rfl rfl ?_
          refine J_aaldR i dX7_ruled_16 (Or.inr (Or.inr (Or.inl rfl))) r2 hx hii (by omega) t2 ?_
          refine J_ifnull dX7_ruled_17 ?_
          refine J_aload_n dX7_ruled_20 rfl rfl ?_
          refine J_getf dX7_ruled_21 fl_X7_21 (ho) rfl ?_
          refine J_iload_n dX7_ruled_24 rfl rfl ?_
          refine J_aaldR i dX7_ruled_25 (Or.inr (Or.inr (Or.inl rfl))) r2 hx hii (by omega) t2 ?_
          refine J_aload_n dX7_ruled_26 rfl rfl ?_
          refine J_aload_n dX7_ruled_27 rfl rfl ?_
          refine J_callVr (As := [_, _]) dX7_ruled_28 ml_X7_102 cal_X8_of im_X8_of se_X8_of (ca) rfl rfl rfl (Nat.le_of_ble_eq_true rfl) ⟨by decide, by decide⟩ ⟨by decide, by decide⟩ (tof_all hst hS0 hnb hnr hw hb 4 v t t3 t4) ?_
          refine J_iconst (v := 1) dX7_ruled_31 (by decide) ?_
          refine J_icmp_ne (tgt := 42) dX7_ruled_32 rfl (fun h32 => ?_) (fun h32 => ?_)
          · refine J_iinc (v := _ + 1) (L' := [(2, _), (0, _), (1, _)]) dX7_ruled_42 rfl rfl (by decide) rfl ?_
            refine J_goto (tgt := 2) dX7_ruled_45 rfl ?_
            refine xx_J.pick [0, 1, 2] rfl ?_
            exact ih _ (by rw [hx]; exact nI_1 i) (by rw [hg, if_neg (fun z => h32 (hch.mp z))])
          · refine J_aload_n dX7_ruled_35 rfl rfl ?_
            refine J_getf dX7_ruled_36 fl_X7_16 (ho) rfl ?_
            refine J_iload_n dX7_ruled_39 rfl rfl ?_
            refine J_ialdN i dX7_ruled_40 r1 hx hii (by omega) ?_
            refine J_ireturn dX7_ruled_41 rfl rfl (by decide) (by decide) ?_
            exact ⟨by rw [hg, if_pos (hch.mpr h32)], rfl, rfl⟩
  refine xx_J.pick [0, 1, 2] rfl ?_
  exact loop 0 (Nat.zero_le _) _ rfl rfl
/-- the row of the bout i is g -/
abbrev btU (S : sS) (i : Nat) (g : Nat → Int32) : sS := (S.1, va_up S.2.1 (10 + i) g, S.2.2)
theorem btU_s {S : sS} {i : Nat} {g : Nat → Int32} : (btU S i g).2.1 (10 + i) = g := va_up_self _ _ _
theorem btU_n {S : sS} {i q : Nat} {g : Nat → Int32} (h : ¬ q = 10 + i) : (btU S i g).2.1 q = S.2.1 q := va_up_ne _ _ h
/-- the rows of a Sim are apart -/
def simX (S : sS) : Prop := S.2.2 6 < 5 ∧ (∀ i, i < S.2.2 1 → ¬ S.2.2 2 = S.2.2 (10 + i)) ∧ ∀ i j, i < S.2.2 1 → j < S.2.2 1 → S.2.2 (10 + i) = S.2.2 (10 + j) → i = j
theorem simW.bne {h : Nat} {S : sS} (hS : simW h S A) {z : Nat} {c : va_E} (hz : A z = some c) (hc : ∀ f, ¬ c = .inl (0, 5, .inl f)) {i : Nat} (hi : i < S.2.2 1) : ¬ z = S.2.2 (10 + i) := fun e => by
  have z2 := hS.2.2.2.2.2.1 i hi
  rw [← e, hz] at z2
  exact hc _ (Option.some.inj z2)
theorem simW.btU {h : Nat} {S : sS} (hS : simW h S A) (hX : simX S) {i : Nat} (hi : i < S.2.2 1) {g : Nat → Int32} (h1 : A' (S.2.2 (10 + i)) = some (.inl (0, 5, .inl g))) (h2 : ∀ z, ¬ z = S.2.2 (10 + i) → A' z = A z) : simW h (btU S i g) A' := by
  have hS0 := hS
  obtain ⟨ho, p1, p2, p6, ⟨fa, pa, pf⟩, pb, pr⟩ := hS
  refine ⟨(h2 _ (hS0.bne ho (fun f z => nomatch z) hi)).trans ho, (h2 _ (hS0.bne p1 (fun f z => nomatch z) hi)).trans ?_, (h2 _ (hS0.bne p2 (fun f z => nomatch z) hi)).trans ?_, (h2 _ (hS0.bne p6 (fun f z => nomatch z) hi)).trans ?_, ⟨fa, (h2 _ (hS0.bne pa (fun f z => nomatch z) hi)).trans pa, pf⟩, fun q hq => ?_, (h2 _ (hX.2.1 i hi)).trans ?_⟩
  · rw [btU_n (by omega)]; exact p1
  · rw [btU_n (by omega)]; exact p2
  · rw [btU_n (by omega)]; exact p6
  · by_cases e : q = i
    · subst e; rw [btU_s]; exact h1
    · rw [btU_n (by omega)]
      exact (h2 _ (fun z => e (hX.2.2 q i hq hi z))).trans (pb q hq)
  · rw [btU_n (by omega)]; exact pr
def tlS (S : sS) (tt : Nat → Option (Tr 4)) : Nat → sS
  | 0 => S
  | i + 1 => if 0 ≤ bt (tlS S tt i) i 3 then tlS S tt i else btU (tlS S tt i) i (upd (bt (tlS S tt i) i) 3 (ruW (tlS S tt i) tt (bt (tlS S tt i) i)))
theorem tlS_y {S : sS} {tt : Nat → Option (Tr 4)} {i : Nat} (h : 0 ≤ bt (tlS S tt i) i 3) : tlS S tt (i + 1) = tlS S tt i := if_pos h
theorem tlS_n {S : sS} {tt : Nat → Option (Tr 4)} {i : Nat} (h : ¬ 0 ≤ bt (tlS S tt i) i 3) : tlS S tt (i + 1) = btU (tlS S tt i) i (upd (bt (tlS S tt i) i) 3 (ruW (tlS S tt i) tt (bt (tlS S tt i) i))) := if_neg h
theorem tlS_1 {S : sS} {tt : Nat → Option (Tr 4)} : ∀ i, (tlS S tt i).1 = S.1 ∧ (tlS S tt i).2.2 = S.2.2 ∧ (∀ q, q < 10 → (tlS S tt i).2.1 q = S.2.1 q) ∧ ∀ q c, ¬ c = 3 → bt (tlS S tt i) q c = bt S q c := by
  intro i
  induction i with
  | zero => exact ⟨rfl, rfl, fun _ _ => rfl, fun _ _ _ => rfl⟩
  | succ i ih =>
    obtain ⟨h1, h2, h3, h4⟩ := ih
    by_cases hc : 0 ≤ bt (tlS S tt i) i 3
    · rw [tlS_y hc]; exact ⟨h1, h2, h3, h4⟩
    · rw [tlS_n hc]
      refine ⟨h1, h2, fun q hq => (btU_n (by omega)).trans (h3 q hq), fun q c hc3 => ?_⟩
      by_cases e : q = i
      · subst e
        show (btU _ _ _).2.1 (10 + q) c = _
        rw [btU_s, pk_un hc3]
        exact h4 q c hc3
      · show (btU _ _ _).2.1 (10 + q) c = _
        rw [btU_n (by omega)]
        exact h4 q c hc3
theorem rulH_c {S T : sS} {tt : Nat → Option (Tr 4)} (h2 : T.2.2 = S.2.2) (h3 : T.2.1 3 = S.2.1 3) (h : rulH S tt A) : rulH T tt A := by
  unfold rulH
  rw [h2, h3]
  exact h
theorem rulH.up {h : Nat} {S : sS} {tt : Nat → Option (Tr 4)} (hS : simW h S A) (h6 : S.2.2 6 < 5) (hR : rulH S tt A) (u : ∀ z, (∀ i, i < S.2.2 1 → ¬ z = S.2.2 (10 + i)) → A' z = A z) : rulH S tt A' := by
  obtain ⟨r1, fT, r2, r3⟩ := hR
  refine ⟨(u _ (fun i hi => hS.bne r1 (fun f z => ?_) hi)).trans r1, fT, (u _ (fun i hi => hS.bne r2 (fun f z => nomatch z) hi)).trans r2, fun i hi => ?_⟩
  · have z2 := congrArg (fun e : va_E => match e with | .inl q => q.2.1 | _ => 0) z
    have z3 : S.2.2 6 = 5 := z2
    omega
  · rcases r3 i hi with ⟨t1, t2⟩ | ⟨t, v, t1, t2, t3, t4⟩
    · exact Or.inl ⟨t1, t2⟩
    · exact Or.inr ⟨t, v, t1, t2, t3.up _ _ _ (fun z c hz => u z (fun i hi => hS.bne hz (fun f z => nomatch z) hi)), t4⟩
/-- whether the rules tell a red win -/
def tlF (S : sS) (tt : Nat → Option (Tr 4)) (i : Nat) : Int32 := if 0 ≤ bt (tlS S tt i) i 3 then 0 else if ruW (tlS S tt i) tt (bt (tlS S tt i) i) = 0 then 1 else 0
abbrev tlQ (h : Nat) (S : sS) (tt : Nat → Option (Tr 4)) (n : Nat) (A : xx_H) : xx_Q := xx_wr (some (.int (bx_sum (tlF S tt) (S.2.2 1)))) n (fun A' => simW h (tlS S tt (S.2.2 1)) A' ∧ ∀ z, (∀ i, i < S.2.2 1 → ¬ z = S.2.2 (10 + i)) → A' z = A z)
set_option maxRecDepth 100000 in
set_option maxHeartbeats 4000000 in
theorem c_X7_tellAll (hst : l.stackTraces = false) {h : Nat} {S : sS} (hS : simW h S A) (hnb : S.2.2 1 < 1000) (hnr : S.2.2 3 < 1000) {tt : Nat → Option (Tr 4)} (hR : rulH S tt A) (hX : simX S) (hB : ∀ q, q < S.2.2 1 → b12 (bt S q)) : xx_C G l yX7_tellAll mX7_tellAll 9 265 0 0 [.ref h] A n (tlQ h S tt n A) := by
  have hS0 := hS
  obtain ⟨ho, p1, p2, p6, ⟨fa, pa, pf⟩, pb, pr⟩ := hS
  have en : (nI (S.2.2 1)).toInt = S.2.2 1 := i_n (by omega)
  have h6 : S.2.2 6 < 5 := hX.1
  refine J_C hst (by decide +kernel) rfl rfl rfl (Nat.le_of_ble_eq_true rfl) ?_
  show xx_J _ _ _ _ _ _ _ _ 0 [(0, _)] [] _ _ _ _
  refine J_iconst (v := 0) dX7_tellAll_0 (by decide) ?_
  refine J_istore_n (L' := [(1, _), (0, _)]) dX7_tellAll_1 rfl (by decide) rfl ?_
  refine J_aload_n dX7_tellAll_2 rfl rfl ?_
  refine J_getf dX7_tellAll_3 fl_X7_30 (ho) rfl ?_
  refine J_astore_n (L' := [(2, _), (1, _), (0, _)]) dX7_tellAll_6 rfl (by decide) rfl ?_
  refine J_aload_n dX7_tellAll_7 rfl rfl ?_
  refine J_alen (v := nI (S.2.2 1)) dX7_tellAll_8 pa (by decide) rfl ?_
  refine J_istore_n (L' := [(3, _), (2, _), (1, _), (0, _)]) dX7_tellAll_9 rfl (by decide) rfl ?_
  refine J_iconst (v := 0) dX7_tellAll_10 (by decide) ?_
  refine J_istore (L' := [(4, _), (3, _), (2, _), (1, _), (0, _)]) dX7_tellAll_11 (by decide) rfl ?_
  have loop : ∀ i, i ≤ (S.2.2 1) → ∀ (x acc : Int32) (A1 : xx_H) , (x = nI i) → (acc = bx_sum (tlF S tt) i) → (simW h (tlS S tt i) A1) → (∀ z, (∀ i, i < S.2.2 1 → ¬ z = S.2.2 (10 + i)) → A1 z = A z) → xx_J G l mX7_tellAll 9 265 0 0 (tlQ h S tt n A) 13 [(4, .int x), (3, .int (nI (S.2.2 1))), (2, .ref (S.2.2 0)), (1, .int acc), (0, .ref h)] [] A1 n 0 0 := by
    refine xx_dn ?_ ?_
    · intro x acc  A1   hx hacc hW1 hF1
      have ex : x.toInt = S.2.2 1 := by rw [hx]; exact i_n (by omega)
      refine J_iload dX7_tellAll_13 rfl ?_
      refine J_iload_n dX7_tellAll_15 rfl rfl ?_
      refine J_icmp_ge (tgt := 66) dX7_tellAll_16 rfl (fun h16 => ?_) (fun h16 => ?_)
      · refine J_iload_n dX7_tellAll_66 rfl rfl ?_
        refine J_ireturn dX7_tellAll_67 rfl rfl (by decide) (by decide) ?_
        exact ⟨by rw [hacc], rfl, hW1, hF1⟩
      · first | (exfalso; simp only [i_lt, i_le, i_eq, i_0, i_1, i_2, i_3, i_4, i_5, i_6, i_8, i_9, i_10, i_12, i_16, i_20, i_m1] at h16; omega) | (exfalso; simp only [s_up, a_up, va_up, i_lt, i_le, i_eq, i_0, i_1, i_2, i_3, i_4, i_5, i_6, i_8, i_9, i_10, i_12, i_16, i_20, i_m1, ↓reduceIte, Nat.reduceEqDiff] at h16; omega)
    · intro i hii ih x acc  A1   hx hacc hW1 hF1
      have ex : x.toInt = i := by rw [hx]; exact i_n (by omega)
      obtain ⟨e1, e2, e3, e4⟩ := tlS_1 (S := S) (tt := tt) i
      have ho := hW1.1
      obtain ⟨fb, pa, pf⟩ := hW1.2.2.2.2.1
      have pb := hW1.2.2.2.2.2.1
      rw [e2] at pa pf pb
      have hR1 := rulH_c e2 (e3 3 (by decide)) (hR.up hS0 h6 hF1)
      have hX1 : simX (tlS S tt i) := by unfold simX; rw [e2]; exact hX
      have hnb1 : (tlS S tt i).2.2 1 < 1000 := by rw [e2]; exact hnb
      have hnr1 : (tlS S tt i).2.2 3 < 1000 := by rw [e2]; exact hnr
      have hbi : b12 (bt (tlS S tt i) i) := fun q hq => by rw [e4 i (1 + q) (by omega)]; exact hB i hii q hq
      refine J_iload dX7_tellAll_13 rfl ?_
      refine J_iload_n dX7_tellAll_15 rfl rfl ?_
      refine J_icmp_ge (tgt := 66) dX7_tellAll_16 rfl (fun h16 => ?_) (fun h16 => ?_)
      · first | (exfalso; simp only [i_lt, i_le, i_eq, i_0, i_1, i_2, i_3, i_4, i_5, i_6, i_8, i_9, i_10, i_12, i_16, i_20, i_m1] at h16; omega) | (exfalso; simp only [s_up, a_up, va_up, i_lt, i_le, i_eq, i_0, i_1, i_2, i_3, i_4, i_5, i_6, i_8, i_9, i_10, i_12, i_16, i_20, i_m1, ↓reduceIte, Nat.reduceEqDiff] at h16; omega)
      · refine J_aload_n dX7_tellAll_19 rfl rfl ?_
        refine J_iload dX7_tellAll_20 rfl ?_
        refine J_aaldR i dX7_tellAll_22 (Or.inl rfl) pa hx hii (by omega) (pf i hii) ?_
        refine J_astore (L' := [(5, _), (4, _), (3, _), (2, _), (1, _), (0, _)]) dX7_tellAll_23 (by decide) rfl ?_
        refine J_aload dX7_tellAll_25 rfl ?_
        refine J_iconst (v := 3) dX7_tellAll_27 (by decide) ?_
        refine J_ialdN 3 dX7_tellAll_28 (pb i hii) rfl (by decide) (by decide) ?_
        refine J_if_lt (tgt := 35) dX7_tellAll_29 rfl (fun h29 => ?_) (fun h29 => ?_)
        · refine J_aload dX7_tellAll_35 rfl ?_
          refine J_iconst (v := 3) dX7_tellAll_37 (by decide) ?_
          refine J_aload_n dX7_tellAll_38 rfl rfl ?_
          refine J_aload dX7_tellAll_39 rfl ?_
          have hop9 : ¬ 0 ≤ bt (tlS S tt i) i 3 := fun z => absurd h29 (Int32.not_lt.mpr z)
          refine J_callVr (As := [_]) dX7_tellAll_41 ml_X7_106 cal_X7_ruled im_X7_ruled se_X7_ruled ho rfl rfl rfl (Nat.le_of_ble_eq_true rfl) ⟨by decide, by decide⟩ ⟨by decide, by decide⟩ (c_X7_ruled hst hW1 hnb1 hnr1 hR1 (by rw [e2]; omega) (pb i hii) hbi) ?_
          refine J_iastQ 3 dX7_tellAll_44 (pb i hii) rfl (by decide) (by decide) (fun A4 g4 o4 => ?_)
          have hW2 := hW1.btU hX1 (i := i) (by rw [e2]; exact hii) (by rw [e2]; exact g4) (fun z hz => o4 z (by rw [e2] at hz; exact hz))
          refine J_iload_n dX7_tellAll_45 rfl rfl ?_
          refine J_aload dX7_tellAll_46 rfl ?_
          refine J_iconst (v := 3) dX7_tellAll_48 (by decide) ?_
          refine J_ialdN 3 dX7_tellAll_49 g4 rfl (by decide) (by decide) ?_
          refine J_if_ne (tgt := 57) dX7_tellAll_50 rfl (fun h50 => ?_) (fun h50 => ?_)
          · refine J_iconst (v := 0) dX7_tellAll_57 (by decide) ?_
            refine J_iadd dX7_tellAll_58 ?_
            refine J_istore_n (L' := [(1, _), (5, _), (4, _), (3, _), (2, _), (0, _)]) dX7_tellAll_59 rfl (by decide) rfl ?_
            refine J_iinc (v := _ + 1) (L' := [(4, _), (1, _), (5, _), (3, _), (2, _), (0, _)]) dX7_tellAll_60 rfl rfl (by decide) rfl ?_
            refine J_goto (tgt := 13) dX7_tellAll_63 rfl ?_
            refine xx_J.pick [0, 3, 4, 1, 5] rfl ?_
            exact ih _ _ _  (by rw [hx]; exact nI_1 i) (by rw [hacc]; exact bx_v (by unfold tlF; rw [if_neg hop9]; exact if_neg (by have z := h50; rw [pk_us] at z; exact z))) (by rw [tlS_n hop9]; exact hW2) (fun z hz => (o4 z (hz i hii)).trans (hF1 z hz))
          · refine J_iconst (v := 1) dX7_tellAll_53 (by decide) ?_
            refine J_goto (tgt := 58) dX7_tellAll_54 rfl ?_
            refine J_iadd dX7_tellAll_58 ?_
            refine J_istore_n (L' := [(1, _), (5, _), (4, _), (3, _), (2, _), (0, _)]) dX7_tellAll_59 rfl (by decide) rfl ?_
            refine J_iinc (v := _ + 1) (L' := [(4, _), (1, _), (5, _), (3, _), (2, _), (0, _)]) dX7_tellAll_60 rfl rfl (by decide) rfl ?_
            refine J_goto (tgt := 13) dX7_tellAll_63 rfl ?_
            refine xx_J.pick [0, 3, 4, 1, 5] rfl ?_
            exact ih _ _ _  (by rw [hx]; exact nI_1 i) (by rw [hacc]; exact bx_v (by unfold tlF; rw [if_neg hop9]; exact if_pos (by have z := h50; rw [pk_us] at z; exact z))) (by rw [tlS_n hop9]; exact hW2) (fun z hz => (o4 z (hz i hii)).trans (hF1 z hz))
        · refine J_goto (tgt := 60) dX7_tellAll_32 rfl ?_
          refine J_iinc (v := _ + 1) (L' := [(4, _), (5, _), (3, _), (2, _), (1, _), (0, _)]) dX7_tellAll_60 rfl rfl (by decide) rfl ?_
          refine J_goto (tgt := 13) dX7_tellAll_63 rfl ?_
          refine xx_J.pick [0, 2, 3, 4, 5] rfl ?_
          exact ih _ _ _  (by rw [hx]; exact nI_1 i) (by rw [hacc]; exact bx_0 (if_pos (by first | assumption | exact Int32.not_lt.mp (by assumption)))) (by rw [tlS_y (by first | assumption | exact Int32.not_lt.mp (by assumption))]; exact hW1) hF1
  refine xx_J.pick [0, 1, 2, 3, 4] rfl ?_
  exact loop 0 (by omega) _ _ _  rfl rfl hS0 (fun _ _ => rfl)
end XTL
