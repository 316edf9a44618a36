/-! Sim.mates, latest -/
section XSU
variable {G : xx_G} {l : Launch} {A A' : xx_H} {n : Nat} {k j i q s e t d : Nat}
theorem simW.upv {h v w : Nat} {S : sS} (hS : simW h S A) (lt : ∀ (z : Nat) (c : va_E), A z = some c → z < n) (hv : n ≤ v) (hw : n ≤ w) (u : ∀ z, z ≠ v → z ≠ w → A' z = A z) : simW h S A' :=
  hS.up lt (fun z hz => u z (by omega) (by omega))
theorem full_t {k q : Nat} (hq : q < k) : (2 ^ k - 1).testBit q = true := by rw [Nat.testBit_two_pow_sub_one]; exact decide_eq_true hq
theorem full_p {k : Nat} (hk : k ≤ 12) : pcn (2 ^ k - 1) 12 = k := by
  have z := pcn_wide (s := 2 ^ k - 1) (k := k) (Nat.sub_lt (Nat.pow_pos (by decide)) (by decide)) (12 - k)
  rw [show k + (12 - k) = 12 from by omega] at z
  rw [z]
  exact pcn_full k k (Nat.le_refl _)
abbrev mtsQ (S : sS) (rw_ : Nat → Int32) (k n : Nat) (A : xx_H) : xx_Q := fun r A' n' => r = .inl (some (.ref n)) ∧ n' = n + 2 ∧ (∃ bs, A' n = some (.inl (0, 13, .inl bs)) ∧ bs 12 = nI (mr (metS S rw_) k (k / 2) (2 ^ k - 1)) ∧ ∀ q, q < k → bs q = nI (prM (metS S rw_) k (k / 2) (2 ^ k - 1) q)) ∧ ∀ z, z < n → A' z = A z
theorem mon_st {g : Nat → Int32} (h : ∀ p, p < i → g p = -1) : ∀ p, p < i + 1 → upd g i (-1) p = -1 := fun p hp => by
  by_cases e : p = i
  · subst e; exact pk_us
  · rw [pk_un e]; exact h p (by omega)
set_option maxRecDepth 100000 in
set_option maxHeartbeats 4000000 in
theorem c_X7_mates (hst : l.stackTraces = false) {h : Nat} {S : sS} (hS : simW h S A) (hnb : S.2.2 1 < 1000) (hnr : S.2.2 3 < 1000) {u m k : Nat} {rw_ : Nat → Int32} (hmk : m % 100 = m ∧ k = m - m % 2 ∧ m ≤ 12) (hu : A u = some (.inl (0, m, .inl rw_))) : xx_C G l yX7_mates mX7_mates 8 330 2 25 [.ref h, .ref u] A n (mtsQ S rw_ k n A) := by
  have hS0 := hS
  obtain ⟨ho, p1, p2, p6, ⟨fa, pa, pf⟩, pb, pr⟩ := hS
  have hk12 : k ≤ 12 := by omega
  refine J_C hst (by decide +kernel) rfl rfl rfl (Nat.le_of_ble_eq_true rfl) ?_
  show xx_J _ _ _ _ _ _ _ _ 0 [(0, _), (1, _)] [] _ _ _ _
  refine J_ltA (fun ltP => ?_)
  refine J_bipush (v := 13) dX7_mates_0 (by decide) ?_
  refine J_newi (N := 13) dX7_mates_2 ac_int (by decide) (by decide) (by decide) (by decide) (by decide) ?_
  refine J_up (fun A1 g1 o1 => ?_)
  refine J_astore_n (L' := [(2, _), (0, _), (1, _)]) dX7_mates_4 rfl (by decide) rfl ?_
  refine J_aload_n dX7_mates_5 rfl rfl ?_
  refine J_bipush (v := 12) dX7_mates_6 (by decide) ?_
  refine J_bipush (v := 99) dX7_mates_8 (by decide) ?_
  refine J_iastQ 12 dX7_mates_10 g1 rfl (by decide) (by decide) (fun A2 g2 o2 => ?_)
  refine J_bipush (v := 12) dX7_mates_11 (by decide) ?_
  refine J_newi (N := 12) dX7_mates_13 ac_int (by decide) (by decide) (by decide) (by decide) (by decide) ?_
  refine J_up (fun A3 g3 o3 => ?_)
  refine J_astore_n (L' := [(3, _), (2, _), (0, _), (1, _)]) dX7_mates_15 rfl (by decide) rfl ?_
  refine J_iconst (v := 0) dX7_mates_16 (by decide) ?_
  refine J_istore (L' := [(4, _), (3, _), (2, _), (0, _), (1, _)]) dX7_mates_17 (by decide) rfl ?_
  have loop : ∀ i, i ≤ 12 → ∀ (x : Int32) (A1 : xx_H) (g : Nat → Int32) , (x = nI i) → (A1 (n + 1) = some (.inl (0, 12, .inl g))) → (∀ z, z ≠ n + 1 → A1 z = A3 z) → (∀ p, p < i → g p = -1) → xx_J G l mX7_mates 8 330 2 25 (mtsQ S rw_ k n A) 19 [(4, .int x), (3, .ref (n + 1)), (2, .ref n), (0, .ref h), (1, .ref u)] [] A1 (n + 1 + 1) (0 + 1 + 1) (0 + 13 + 12) := by
    refine xx_dn ?_ ?_
    · intro x  A1  g   hx h1 h2 h3
      have ex : x.toInt = 12 := by rw [hx]; exact i_n (by omega)
      have hSA : ∀ A5 : xx_H, (∀ z, z ≠ n + 1 → z ≠ n → A5 z = A1 z) → ∀ z, z < n → A5 z = A z := fun A5 hA5 z hz => (hA5 z (by omega) (by omega)).trans ((h2 z (by omega)).trans ((o3 z (by omega)).trans ((o2 z (by omega)).trans (o1 z (by omega)))))
      have ho := (hS0.up (n := n) ltP (hSA A1 (fun _ _ _ => rfl))).1
      refine J_iload dX7_mates_19 rfl ?_
      refine J_bipush (v := 12) dX7_mates_21 (by decide) ?_
      refine J_icmp_ge (tgt := 37) dX7_mates_23 rfl (fun h23 => ?_) (fun h23 => ?_)
      · refine J_aload_n dX7_mates_37 rfl rfl ?_
        refine J_aload_n dX7_mates_38 rfl rfl ?_
        refine J_aload_n dX7_mates_39 rfl rfl ?_
        refine J_aload_n dX7_mates_40 rfl rfl ?_
        refine J_iconst (v := 0) dX7_mates_41 (by decide) ?_
        refine J_callV (As := [_, _, _, _]) dX7_mates_42 ml_X7_87 cal_X7_tryOut im_X7_tryOut se_X7_tryOut ho rfl rfl rfl (Nat.le_of_ble_eq_true rfl) ⟨by omega, by show 8 + (8 + 11) + _ ≤ _; omega⟩ ⟨by decide, by decide⟩ (try_all hst (h := h) (u := u) (m := m) (k := k) (rw_ := rw_) hk12 hmk hnb hnr (k / 2) (by omega) A1 (n + 1 + 1) (n + 1) n (2 ^ k - 1) 0 99 g _ 0 (by omega) (Nat.ne_of_gt (Nat.lt_succ_of_lt (ltP _ _ hu))) (Nat.ne_of_gt (ltP _ _ hu)) (fun A5 hA5 => hS0.up (n := n) ltP (hSA A5 hA5)) ((hSA A1 (fun _ _ _ => rfl) u (ltP _ _ hu)).trans hu) h1 ((h2 n (by omega)).trans ((o3 n (by omega)).trans g2)) (Nat.sub_lt (Nat.pow_pos (by decide)) (by decide)) (by rw [full_p hk12]; omega) (fun q hq => ⟨fun _ => h3 q (by omega), fun z => absurd (full_t hq) z⟩) rfl (by omega) rfl (by decide)) (fun _ _ _ _ hE => absurd hE.1 (fun z => nomatch z)) (fun v6 A6 n6 _ hQ => ?_)
        obtain ⟨e6, hn6, bs, d1, d2, d3, d4⟩ := hQ
        subst n6
        cases e6
        refine J_aload_n dX7_mates_45 rfl rfl ?_
        refine J_areturnA dX7_mates_46 rfl (by decide) (by decide) ?_
        have hle := mr_le (met := metS S rw_) hk12 (k / 2) (2 ^ k - 1) (Nat.sub_lt (Nat.pow_pos (by decide)) (by decide)) (by rw [full_p hk12]; omega)
        have hd4 := d4.1 (by omega)
        rw [Nat.zero_add] at hd4
        exact ⟨rfl, rfl, ⟨bs, d1, hd4.1, fun q hq => (hd4.2 q hq).trans (if_pos (full_t hq))⟩, hSA A6 d3⟩
      · first | (exfalso; simp only [i_lt, i_le, i_eq, i_0, i_1, i_2, i_3, i_4, i_5, i_6, i_8, i_9, i_10, i_12, i_16, i_20, i_m1] at h23; omega) | (exfalso; simp only [s_up, a_up, va_up, i_lt, i_le, i_eq, i_0, i_1, i_2, i_3, i_4, i_5, i_6, i_8, i_9, i_10, i_12, i_16, i_20, i_m1, ↓reduceIte, Nat.reduceEqDiff] at h23; omega)
    · intro i hii ih x  A1  g   hx h1 h2 h3
      have ex : x.toInt = i := by rw [hx]; exact i_n (by omega)
      refine J_iload dX7_mates_19 rfl ?_
      refine J_bipush (v := 12) dX7_mates_21 (by decide) ?_
      refine J_icmp_ge (tgt := 37) dX7_mates_23 rfl (fun h23 => ?_) (fun h23 => ?_)
      · first | (exfalso; simp only [i_lt, i_le, i_eq, i_0, i_1, i_2, i_3, i_4, i_5, i_6, i_8, i_9, i_10, i_12, i_16, i_20, i_m1] at h23; omega) | (exfalso; simp only [s_up, a_up, va_up, i_lt, i_le, i_eq, i_0, i_1, i_2, i_3, i_4, i_5, i_6, i_8, i_9, i_10, i_12, i_16, i_20, i_m1, ↓reduceIte, Nat.reduceEqDiff] at h23; omega)
      · refine J_aload_n dX7_mates_26 rfl rfl ?_
        refine J_iload dX7_mates_27 rfl ?_
        refine J_iconst (v := -1) dX7_mates_29 (by decide) ?_
        refine J_iastQ i dX7_mates_30 h1 hx (by omega) (by omega) (fun A4 g4 o4 => ?_)
        refine J_iinc (v := _ + 1) (L' := [(4, _), (3, _), (2, _), (0, _), (1, _)]) dX7_mates_31 rfl rfl (by decide) rfl ?_
        refine J_goto (tgt := 19) dX7_mates_34 rfl ?_
        refine xx_J.pick [0, 1, 2, 3, 4] rfl ?_
        exact ih _ _ _  (by rw [hx]; exact nI_1 i) g4 (fun z hz => (o4 z hz).trans (h2 z hz)) (mon_st h3)
  refine xx_J.pick [0, 1, 2, 3, 4] rfl ?_
  exact loop 0 (by omega) _ _ _  rfl g3 (fun _ _ => rfl) (fun p hp => absurd hp (Nat.not_lt_zero p))
/-- the bouts of the latest round among the first ones -/
abbrev ltI (S : sS) (i : Nat) : List Nat := (List.range i).filter (fun q => decide (bt S q 0 = S.1 5 - 1))
theorem ltI_s {S : sS} {i : Nat} : ltI S (i + 1) = if bt S i 0 = S.1 5 - 1 then ltI S i ++ [i] else ltI S i := by
  unfold ltI
  rw [List.range_succ, List.filter_append]
  by_cases hi : bt S i 0 = S.1 5 - 1
  · rw [if_pos hi, List.filter_cons_of_pos (by simpa using hi), List.filter_nil]
  · rw [if_neg hi, List.filter_cons_of_neg (by simpa using hi), List.filter_nil, List.append_nil]
theorem ltI_len {S : sS} {i : Nat} : (ltI S i).length ≤ i := Nat.le_trans (List.length_filter_le _ _) (Nat.le_of_eq List.length_range)
theorem ltI_lt {S : sS} {i p : Nat} (h : p < (ltI S i).length) : (ltI S i).getD p 0 < i := by
  rw [getD_at h]
  exact List.mem_range.mp (List.mem_filter.mp (List.getElem_mem h)).1
theorem ltI_ok {S : sS} {i p : Nat} (h : p < (ltI S i).length) : bt S ((ltI S i).getD p 0) 0 = S.1 5 - 1 := by
  rw [getD_at h]
  simpa using (List.mem_filter.mp (List.getElem_mem h)).2
theorem snocO_st {z : Nat → Nat} {t : List Nat} {w y : Nat} {f g : Nat → Option Nat} (h : ∀ p, p < t.length → f p = some (z (t.getD p 0))) (q2 : ∀ i, i < t.length → g i = f i) (q3 : g t.length = some y) (hy : y = z w) : ∀ p, p < (t ++ [w]).length → g p = some (z ((t ++ [w]).getD p 0)) := fun p hp => by
  rw [List.length_append] at hp
  have hp2 : p < t.length + 1 := hp
  rw [getD_snoc]
  by_cases e : p < t.length
  · rw [if_pos e, q2 p e]; exact h p e
  · have e2 : p = t.length := by omega
    rw [if_neg e, if_pos e2, e2, q3, hy]
abbrev ltQ (S : sS) (n : Nat) (A : xx_H) : xx_Q := fun r A' n' => ∃ u f, r = .inl (some (.ref u)) ∧ n ≤ u ∧ u < n' ∧ A' u = some (.inl (3, (ltI S (S.2.2 1)).length, .inr (.inr (.inr (.inr f))))) ∧ (∀ p, p < (ltI S (S.2.2 1)).length → f p = some (S.2.2 (10 + (ltI S (S.2.2 1)).getD p 0))) ∧ ∀ z, z < n → A' z = A z
set_option maxRecDepth 100000 in
set_option maxHeartbeats 4000000 in
theorem c_X7_latest (hst : l.stackTraces = false) {h : Nat} {S : sS} (hS : simW h S A) (hnb : S.2.2 1 < 1000) (hnr : S.2.2 3 < 1000) (hb9 : S.2.2 1 < 100) : xx_C G l yX7_latest mX7_latest 1 23 101 10100 [.ref h] A n (ltQ S n A) := by
  have hS0 := hS
  obtain ⟨ho, p1, p2, p6, ⟨fa, pa, pf⟩, pb, pr⟩ := hS
  refine J_C hst (by decide +kernel) rfl rfl rfl (Nat.le_of_ble_eq_true rfl) ?_
  show xx_J _ _ _ _ _ _ _ _ 0 [(0, _)] [] _ _ _ _
  refine J_ltA (fun ltP => ?_)
  refine J_iconst (v := 0) dX7_latest_0 (by decide) ?_
  refine J_newA (N := 0) dX7_latest_1 cl_X7_29 (by decide) (by decide) (by decide) (by decide) (by decide) ?_
  refine J_up (fun A0 g0 o0 => ?_)
  have ho := (hS0.up (n := n) ltP (A' := A0) (fun z hz => o0 z (by omega))).1
  have pa := (o0 (S.2.2 0) (Nat.ne_of_lt (ltP _ _ pa))).trans pa
  refine J_astore_n (L' := [(1, _), (0, _)]) dX7_latest_4 rfl (by decide) rfl ?_
  refine J_aload_n dX7_latest_5 rfl rfl ?_
  refine J_getf dX7_latest_6 fl_X7_30 (ho) rfl ?_
  refine J_astore_n (L' := [(2, _), (1, _), (0, _)]) dX7_latest_9 rfl (by decide) rfl ?_
  refine J_aload_n dX7_latest_10 rfl rfl ?_
  refine J_alen (v := nI (S.2.2 1)) dX7_latest_11 pa (by decide) rfl ?_
  refine J_istore_n (L' := [(3, _), (2, _), (1, _), (0, _)]) dX7_latest_12 rfl (by decide) rfl ?_
  refine J_iconst (v := 0) dX7_latest_13 (by decide) ?_
  refine J_istore (L' := [(4, _), (3, _), (2, _), (1, _), (0, _)]) dX7_latest_14 (by decide) rfl ?_
  have loop : ∀ i, i ≤ (S.2.2 1) → ∀ (x : Int32) (A1 : xx_H) (n1 k1 j1 u : Nat) (f : Nat → Option Nat) , (x = nI i) → (n + 1 ≤ n1) → (k1 ≤ 1 + i ∧ j1 ≤ 100 * i) → (n ≤ u ∧ u < n1) → (A1 u = some (.inl (3, (ltI S i).length, .inr (.inr (.inr (.inr f)))))) → (∀ z, z < n → A1 z = A z) → (∀ p, p < (ltI S i).length → f p = some (S.2.2 (10 + (ltI S i).getD p 0))) → xx_J G l mX7_latest 1 23 101 10100 (ltQ S n A) 16 [(4, .int x), (3, .int (nI (S.2.2 1))), (2, .ref (S.2.2 0)), (1, .ref u), (0, .ref h)] [] A1 n1 k1 j1 := by
    refine xx_dn ?_ ?_
    · intro x  A1  n1 k1 j1 u  f   hx hn hk hu h1 h3 h4
      have ex : x.toInt = S.2.2 1 := by rw [hx]; exact i_n (by omega)
      have en : (nI (S.2.2 1)).toInt = S.2.2 1 := i_n (by omega)
      refine J_iload dX7_latest_16 rfl ?_
      refine J_iload_n dX7_latest_18 rfl rfl ?_
      refine J_icmp_ge (tgt := 54) dX7_latest_19 rfl (fun h19 => ?_) (fun h19 => ?_)
      · refine J_aload_n dX7_latest_54 rfl rfl ?_
        refine J_areturnA dX7_latest_55 rfl (by omega) (by omega) ?_
        exact ⟨u, f, rfl, hu.1, hu.2, h1, h4, h3⟩
      · first | (exfalso; simp only [i_lt, i_le, i_eq, i_0, i_1, i_2, i_3, i_4, i_5, i_6, i_8, i_9, i_10, i_12, i_16, i_20, i_m1] at h19; omega) | (exfalso; simp only [s_up, a_up, va_up, i_lt, i_le, i_eq, i_0, i_1, i_2, i_3, i_4, i_5, i_6, i_8, i_9, i_10, i_12, i_16, i_20, i_m1, ↓reduceIte, Nat.reduceEqDiff] at h19; omega)
    · intro i hii ih x  A1  n1 k1 j1 u  f   hx hn hk hu h1 h3 h4
      have ex : x.toInt = i := by rw [hx]; exact i_n (by omega)
      have en : (nI (S.2.2 1)).toInt = S.2.2 1 := i_n (by omega)
      have hS1 := hS0.up (n := n) ltP h3
      have ho := hS1.1
      obtain ⟨fb, pa, pf⟩ := hS1.2.2.2.2.1
      have pb := hS1.2.2.2.2.2.1
      have hmi := ltI_len (S := S) (i := i)
      refine J_iload dX7_latest_16 rfl ?_
      refine J_iload_n dX7_latest_18 rfl rfl ?_
      refine J_icmp_ge (tgt := 54) dX7_latest_19 rfl (fun h19 => ?_) (fun h19 => ?_)
      · first | (exfalso; simp only [i_lt, i_le, i_eq, i_0, i_1, i_2, i_3, i_4, i_5, i_6, i_8, i_9, i_10, i_12, i_16, i_20, i_m1] at h19; omega) | (exfalso; simp only [s_up, a_up, va_up, i_lt, i_le, i_eq, i_0, i_1, i_2, i_3, i_4, i_5, i_6, i_8, i_9, i_10, i_12, i_16, i_20, i_m1, ↓reduceIte, Nat.reduceEqDiff] at h19; omega)
      · refine J_aload_n dX7_latest_22 rfl rfl ?_
        refine J_iload dX7_latest_23 rfl ?_
        refine J_aaldR i dX7_latest_25 (Or.inl rfl) pa hx hii (by omega) (pf i hii) ?_
        refine J_astore (L' := [(5, _), (4, _), (3, _), (2, _), (1, _), (0, _)]) dX7_latest_26 (by decide) rfl ?_
        refine J_aload dX7_latest_28 rfl ?_
        refine J_iconst (v := 0) dX7_latest_30 (by decide) ?_
        refine J_ialdN 0 dX7_latest_31 (pb i hii) rfl (by decide) (by decide) ?_
        refine J_aload_n dX7_latest_32 rfl rfl ?_
        refine J_getf dX7_latest_33 fl_X7_42 (ho) rfl ?_
        refine J_iconst (v := 1) dX7_latest_36 (by decide) ?_
        refine J_isub dX7_latest_37 ?_
        refine J_icmp_ne (tgt := 48) dX7_latest_38 rfl (fun h38 => ?_) (fun h38 => ?_)
        · refine J_iinc (v := _ + 1) (L' := [(4, _), (5, _), (3, _), (2, _), (1, _), (0, _)]) dX7_latest_48 rfl rfl (by decide) rfl ?_
          refine J_goto (tgt := 16) dX7_latest_51 rfl ?_
          refine xx_J.pick [0, 2, 3, 4, 5] rfl ?_
          exact ih _ _ _ _ _ _ _  (by rw [hx]; exact nI_1 i) hn (by omega) hu (by rw [ltI_s, if_neg h38]; exact h1) h3 (by rw [ltI_s, if_neg h38]; exact h4)
        · refine J_aload_n dX7_latest_41 rfl rfl ?_
          refine J_aload dX7_latest_42 rfl ?_
          refine J_callSg (As := [_, _]) dX7_latest_44 ml_X7_45 cal_X7_with rfl sm_X7_with rfl (Nat.le_of_ble_eq_true rfl) ⟨by decide, by decide⟩ ⟨by omega, by omega⟩ (c_X7_with hst h1 (pb i hii) (by omega) (fun p hp => ⟨_, _, h4 p hp, pb _ (Nat.lt_trans (ltI_lt hp) hii)⟩)) (fun v8 A8 n8 _ hQ => ?_) (fun _ _ _ _ hE => absurd hE.1 (fun z => nomatch z))
          obtain ⟨e8, hn8, ⟨g, q1, q2, q3⟩, q4⟩ := hQ
          subst n8
          cases e8
          refine J_astore_n (L' := [(1, _), (5, _), (4, _), (3, _), (2, _), (0, _)]) dX7_latest_47 rfl (by decide) rfl ?_
          refine J_iinc (v := _ + 1) (L' := [(4, _), (1, _), (5, _), (3, _), (2, _), (0, _)]) dX7_latest_48 rfl rfl (by decide) rfl ?_
          refine J_goto (tgt := 16) dX7_latest_51 rfl ?_
          refine xx_J.pick [0, 3, 4, 1, 5] rfl ?_
          exact ih _ _ _ _ _ _ _  (by rw [hx]; exact nI_1 i) (by omega) (by omega) ⟨by omega, Nat.lt_succ_self _⟩ (by rw [ltI_s, if_pos h38, List.length_append]; exact q1) (fun z hz => (q4 z (by omega)).trans (h3 z hz)) (by rw [ltI_s, if_pos h38]; exact snocO_st (z := fun w => S.2.2 (10 + w)) h4 q2 q3 rfl)
  refine xx_J.pick [0, 1, 2, 3, 4] rfl ?_
  exact loop 0 (by omega) _ _ _ _ _ _ _  rfl (Nat.le_refl _) ⟨Nat.le_refl _, Nat.le_refl _⟩ ⟨Nat.le_refl _, Nat.lt_succ_self _⟩ g0 (fun z hz => o0 z (by omega)) (fun p hp => absurd hp (Nat.not_lt_zero p))
end XSU
