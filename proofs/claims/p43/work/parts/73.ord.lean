/-! Sim.order -/
section XSO
variable {G : xx_G} {l : Launch} {A A' : xx_H} {n : Nat} {k j i q s e t d : Nat}
theorem simW.up {h : Nat} {S : sS} (hS : simW h S A) (lt : ∀ (z : Nat) (c : va_E), A z = some c → z < n) (u : ∀ z, z < n → A' z = A z) : simW h S A' := by
  obtain ⟨ho, p1, p2, p6, ⟨fa, pa, pf⟩, pb, pr⟩ := hS
  exact ⟨(u _ (lt _ _ ho)).trans ho, (u _ (lt _ _ p1)).trans p1, (u _ (lt _ _ p2)).trans p2, (u _ (lt _ _ p6)).trans p6, ⟨fa, (u _ (lt _ _ pa)).trans pa, pf⟩, fun i hi => (u _ (lt _ _ (pb i hi))).trans (pb i hi), (u _ (lt _ _ pr)).trans pr⟩
/-- the order of a Sim -/
abbrev sR (S : sS) : Nat → Nat → Bool := ahd (fun w => ptS S (nI w)) (fun w => omS S (nI w)) (S.2.1 1)
theorem ahd_c {P p M m s1 : Nat → Int32} {a c : Nat} (h1 : P a = p a) (h2 : P c = p c) (h3 : M a = m a) (h4 : M c = m c) : ahd P M s1 a c = ahd p m s1 a c := by unfold ahd; rw [h1, h2, h3, h4]
section
variable {P M s1 : Nat → Int32} {a c : Nat}
theorem ahd_y1 (h1 : ¬ P c = P a) (h2 : P c ≤ P a) : ahd P M s1 a c = true := by
  unfold ahd; rw [if_neg (Ne.symm h1)]; simp only [decide_eq_true_eq, i_lt]; rw [i_eq] at h1; rw [i_le] at h2; omega
theorem ahd_n1 (h1 : ¬ P c = P a) (h2 : ¬ P c ≤ P a) : ¬ ahd P M s1 a c = true := by
  unfold ahd; rw [if_neg (Ne.symm h1)]; simp only [decide_eq_true_eq, i_lt]; rw [i_le] at h2; omega
theorem ahd_y2 (h1 : P c = P a) (h2 : ¬ M c = M a) (h3 : M c ≤ M a) : ahd P M s1 a c = true := by
  unfold ahd; rw [if_pos h1.symm, if_neg (Ne.symm h2)]; simp only [decide_eq_true_eq, i_lt]; rw [i_eq] at h2; rw [i_le] at h3; omega
theorem ahd_n2 (h1 : P c = P a) (h2 : ¬ M c = M a) (h3 : ¬ M c ≤ M a) : ¬ ahd P M s1 a c = true := by
  unfold ahd; rw [if_pos h1.symm, if_neg (Ne.symm h2)]; simp only [decide_eq_true_eq, i_lt]; rw [i_le] at h3; omega
theorem ahd_y3 (h1 : P c = P a) (h2 : M c = M a) (h3 : s1 c < s1 a) : ahd P M s1 a c = true := by
  unfold ahd; rw [if_pos h1.symm, if_pos h2.symm, if_neg (fun z => by rw [z] at h3; exact Int32.lt_irrefl h3)]; simp only [decide_eq_true_eq]; exact h3
theorem ahd_n3 (h1 : P c = P a) (h2 : M c = M a) (h3 : ¬ s1 c < s1 a) (h4 : c < a) : ¬ ahd P M s1 a c = true := by
  unfold ahd; rw [if_pos h1.symm, if_pos h2.symm]
  split
  · simp only [decide_eq_true_eq]; omega
  · simp only [decide_eq_true_eq]; exact h3
end
theorem ord_st {S : sS} {P M : Nat → Int32} {x : Int32} {i : Nat} (hx : x = nI i) (h : ∀ p, p < i → P p = ptS S (nI p) ∧ M p = omS S (nI p)) : ∀ p, p < i + 1 → upd P i (ptS S x) p = ptS S (nI p) ∧ upd M i (omS S x) p = omS S (nI p) := fun p hp => by
  by_cases e : p = i
  · subst e; rw [pk_us, pk_us, hx]; exact ⟨rfl, rfl⟩
  · rw [pk_un e, pk_un e]; exact h p (by omega)
set_option maxRecDepth 100000 in
set_option maxHeartbeats 4000000 in
theorem c_X7_order (hst : l.stackTraces = false) {h : Nat} {S : sS} (hS : simW h S A) (hnb : S.2.2 1 < 1000) (hnr : S.2.2 3 < 1000) {nw : Nat} (hw : S.1 0 = nI nw) (h12 : nw ≤ 12) : xx_C G l yX7_order mX7_order 3 74 3 36 [.ref h] A n (fun r A' n' => r = .inl (some (.ref (n + 2))) ∧ n' = n + 3 ∧ (∃ om ls, A' (n + 2) = some (.inl (0, nw, .inl om)) ∧ ordOf (sR S) nw om ls) ∧ ∀ z, z < n → A' z = A z) := by
  have hS0 := hS
  obtain ⟨ho, p1, p2, p6, ⟨fa, pa, pf⟩, pb, pr⟩ := hS
  have en : (S.1 0).toInt = nw := by rw [hw]; exact i_n (by omega)
  refine J_C hst (by decide +kernel) rfl rfl rfl (Nat.le_of_ble_eq_true rfl) ?_
  show xx_J _ _ _ _ _ _ _ _ 0 [(0, _)] [] _ _ _ _
  refine J_ltA (fun ltP => ?_)
  refine J_aload_n dX7_order_0 rfl rfl ?_
  refine J_getf dX7_order_1 fl_X7_38 (ho) rfl ?_
  refine J_newi (N := nw) dX7_order_4 ac_int (by rw [hw]; exact nI_pos (by omega)) (by rw [hw]; exact nI_clamp (by omega)) (by omega) (by decide) (by omega) ?_
  refine J_up (fun A1 g1 o1 => ?_)
  have hS1 := hS0.up (n := n) ltP (A' := A1) (fun z hz => o1 z (by omega))
  have ho := hS1.1
  refine J_astore_n (L' := [(1, _), (0, _)]) dX7_order_6 rfl (by decide) rfl ?_
  refine J_aload_n dX7_order_7 rfl rfl ?_
  refine J_getf dX7_order_8 fl_X7_38 (ho) rfl ?_
  refine J_newi (N := nw) dX7_order_11 ac_int (by rw [hw]; exact nI_pos (by omega)) (by rw [hw]; exact nI_clamp (by omega)) (by omega) (by decide) (by omega) ?_
  refine J_up (fun A2 g2 o2 => ?_)
  have hS2 := hS0.up (n := n) ltP (A' := A2) (fun z hz => (o2 z (by omega)).trans (o1 z (by omega)))
  have ho := hS2.1
  refine J_astore_n (L' := [(2, _), (1, _), (0, _)]) dX7_order_13 rfl (by decide) rfl ?_
  refine J_iconst (v := 0) dX7_order_14 (by decide) ?_
  refine J_istore_n (L' := [(3, _), (2, _), (1, _), (0, _)]) dX7_order_15 rfl (by decide) rfl ?_
  have loop : ∀ i, i ≤ nw → ∀ (x : Int32) (A1 : xx_H) (P M : Nat → Int32) , (x = nI i) → (A1 n = some (.inl (0, nw, .inl P))) → (A1 (n + 1) = some (.inl (0, nw, .inl M))) → (∀ z, z < n → A1 z = A z) → (∀ p, p < i → P p = ptS S (nI p) ∧ M p = omS S (nI p)) → xx_J G l mX7_order 3 74 3 36 (fun r A' n' => r = .inl (some (.ref (n + 2))) ∧ n' = n + 3 ∧ (∃ om ls, A' (n + 2) = some (.inl (0, nw, .inl om)) ∧ ordOf (sR S) nw om ls) ∧ ∀ z, z < n → A' z = A z) 16 [(3, .int x), (2, .ref (n + 1)), (1, .ref n), (0, .ref h)] [] A1 (n + 1 + 1) (0 + 1 + 1) (0 + nw + nw) := by
    refine xx_dn ?_ ?_
    · intro x  A1  P M   hx h1 h2 h3 h4
      have ex : x.toInt = nw := by rw [hx]; exact i_n (by omega)
      have hS1 := hS0.up (n := n) ltP h3
      have ho := hS1.1
      have k3 := h3
      refine J_iload_n dX7_order_16 rfl rfl ?_
      refine J_aload_n dX7_order_17 rfl rfl ?_
      refine J_getf dX7_order_18 fl_X7_38 (ho) rfl ?_
      refine J_icmp_ge (tgt := 46) dX7_order_21 rfl (fun h21 => ?_) (fun h21 => ?_)
      · have hpm := h4
        refine J_aload_n dX7_order_46 rfl rfl ?_
        refine J_getf dX7_order_47 fl_X7_38 (ho) rfl ?_
        refine J_newi (N := nw) dX7_order_50 ac_int (by rw [hw]; exact nI_pos (by omega)) (by rw [hw]; exact nI_clamp (by omega)) (by omega) (by decide) (by omega) ?_
        refine J_up (fun A3 g3 o3 => ?_)
        have hS3 := hS0.up (n := n) ltP (A' := A3) (fun z hz => (o3 z (by omega)).trans (k3 z hz))
        have ho := hS3.1
        refine J_astore_n (L' := [(3, _), (2, _), (1, _), (0, _)]) dX7_order_52 rfl (by decide) rfl ?_
        refine J_iconst (v := 0) dX7_order_53 (by decide) ?_
        refine J_istore (L' := [(4, _), (3, _), (2, _), (1, _), (0, _)]) dX7_order_54 (by decide) rfl ?_
        have hPM : A1 n = some (.inl (0, nw, .inl P)) ∧ A1 (n + 1) = some (.inl (0, nw, .inl M)) := ⟨h1, h2⟩
        have outer : ∀ i, i ≤ nw → ∀ (A3 : xx_H) (o1 : Nat → Int32) (ls : List Nat) (x : Int32), x = nI i → A3 (n + 2) = some (.inl (0, nw, .inl o1)) → (∀ z, z < n + 2 → A3 z = A1 z) → ordOf (sR S) i o1 ls → xx_J G l mX7_order 3 74 3 36 (fun r A' n' => r = .inl (some (.ref (n + 2))) ∧ n' = n + 3 ∧ (∃ om ls, A' (n + 2) = some (.inl (0, nw, .inl om)) ∧ ordOf (sR S) nw om ls) ∧ ∀ z, z < n → A' z = A z) 56 [(4, .int x), (3, .ref (n + 2)), (0, .ref h), (1, .ref n), (2, .ref (n + 1))] [] A3 (n + 1 + 1 + 1) (0 + 1 + 1 + 1) (0 + nw + nw + nw) := by
          refine xx_dn ?_ ?_
          · intro A3 o1 ls x hx hA3 u3 hls
            have ex : x.toInt = nw := by rw [hx]; exact i_n (by omega)
            have hS3 := hS0.up (n := n) ltP (A' := A3) (fun z hz => (u3 z (by omega)).trans (k3 z hz))
            have ho := hS3.1
            refine J_iload dX7_order_56 rfl ?_
            refine J_aload_n dX7_order_58 rfl rfl ?_
            refine J_getf dX7_order_59 fl_X7_38 (ho) rfl ?_
            refine J_icmp_ge (tgt := 176) dX7_order_62 rfl (fun h62 => ?_) (fun h62 => ?_)
            · refine J_aload_n dX7_order_176 rfl rfl ?_
              refine J_areturnA dX7_order_177 rfl (by decide) (by omega) ?_
              exact ⟨rfl, rfl, ⟨o1, ls, hA3, hls⟩, fun z hz => (u3 z (by omega)).trans (k3 z hz)⟩
            · first | (exfalso; simp only [i_lt, i_le, i_eq, i_0, i_1, i_2, i_3, i_4, i_5, i_6, i_8, i_9, i_10, i_12, i_16, i_20, i_m1] at h62; omega) | (exfalso; simp only [s_up, a_up, va_up, i_lt, i_le, i_eq, i_0, i_1, i_2, i_3, i_4, i_5, i_6, i_8, i_9, i_10, i_12, i_16, i_20, i_m1, ↓reduceIte, Nat.reduceEqDiff] at h62; omega)
          · intro i hii ih A3 o1 ls x hx hA3 u3 hls
            have ex : x.toInt = i := by rw [hx]; exact i_n (by omega)
            have hS3 := hS0.up (n := n) ltP (A' := A3) (fun z hz => (u3 z (by omega)).trans (k3 z hz))
            have ho := hS3.1
            have out : ∀ pl, pl ≤ i → ∀ (A2 : xx_H) (o2 : Nat → Int32) (y : Int32), y = nI pl → A2 (n + 2) = some (.inl (0, nw, .inl o2)) → (∀ z, z < n + 2 → A2 z = A1 z) → (∀ q, q < pl → o2 q = nI (ls.getD q 0)) → (∀ q, pl ≤ q → q < i → o2 (q + 1) = nI (ls.getD q 0) ∧ sR S i (ls.getD q 0) = true) → (pl = 0 ∨ ¬ sR S i (ls.getD (pl - 1) 0) = true) → xx_J G l mX7_order 3 74 3 36 (fun r A' n' => r = .inl (some (.ref (n + 2))) ∧ n' = n + 3 ∧ (∃ om ls, A' (n + 2) = some (.inl (0, nw, .inl om)) ∧ ordOf (sR S) nw om ls) ∧ ∀ z, z < n → A' z = A z) 164 [(5, .int y), (4, .int x), (3, .ref (n + 2)), (0, .ref h), (1, .ref n), (2, .ref (n + 1))] [] A2 (n + 1 + 1 + 1) (0 + 1 + 1 + 1) (0 + nw + nw + nw) := by
              intro pl hpl A2 o2 y hy hA2 u2 g1 g2 g3
              have hS2 := hS0.up (n := n) ltP (A' := A2) (fun z hz => (u2 z (by omega)).trans (k3 z hz))
              have ho := hS2.1
              have q1 := hS2.2.1
              have hP := (u2 n (by omega)).trans hPM.1
              have hM := (u2 (n + 1) (by omega)).trans hPM.2
              refine J_aload_n dX7_order_164 rfl rfl ?_
              refine J_iload dX7_order_165 rfl ?_
              refine J_iload dX7_order_167 rfl ?_
              refine J_iastQ pl dX7_order_169 hA2 hy (by omega) (by omega) (fun A7 g7 o7 => ?_)
              refine J_iinc (v := _ + 1) (L' := [(4, _), (5, _), (3, _), (0, _), (1, _), (2, _)]) dX7_order_170 rfl rfl (by decide) rfl ?_
              refine J_goto (tgt := 56) dX7_order_173 rfl ?_
              refine xx_J.pick [0, 2, 3, 4, 5] rfl ?_
              exact ih _ (upd o2 pl x) _ _ (by rw [hx]; exact nI_1 i) g7 (fun z hz => (o7 z (by omega)).trans (u2 z hz)) (hls.ins (ahd_sto _ _ _) hpl (fun q hq => by rw [pk_un (by omega)]; exact g1 q hq) (fun q h1 h2 => by rw [pk_un (by omega)]; exact g2 q h1 h2) g3 (by rw [pk_us]; exact hx))
            have inner : ∀ pl, pl ≤ i → ∀ (A2 : xx_H) (o2 : Nat → Int32) (y : Int32), y = nI pl → A2 (n + 2) = some (.inl (0, nw, .inl o2)) → (∀ z, z < n + 2 → A2 z = A1 z) → (∀ q, q < pl → o2 q = nI (ls.getD q 0)) → (∀ q, pl ≤ q → q < i → o2 (q + 1) = nI (ls.getD q 0) ∧ sR S i (ls.getD q 0) = true) → xx_J G l mX7_order 3 74 3 36 (fun r A' n' => r = .inl (some (.ref (n + 2))) ∧ n' = n + 3 ∧ (∃ om ls, A' (n + 2) = some (.inl (0, nw, .inl om)) ∧ ordOf (sR S) nw om ls) ∧ ∀ z, z < n → A' z = A z) 69 [(5, .int y), (4, .int x), (3, .ref (n + 2)), (0, .ref h), (1, .ref n), (2, .ref (n + 1))] [] A2 (n + 1 + 1 + 1) (0 + 1 + 1 + 1) (0 + nw + nw + nw) := by
              intro pl
              induction pl with
              | zero =>
                intro hpl A2 o2 y hy hA2 u2 g1 g2
                have ey : y.toInt = 0 := by rw [hy]; rfl
                refine J_iload dX7_order_69 rfl ?_
                refine J_if_le (tgt := 164) dX7_order_71 rfl (fun h71 => ?_) (fun h71 => ?_)
                · exact out 0 (by omega) A2 o2 y hy hA2 u2 g1 g2 (Or.inl rfl)
                · first | (exfalso; simp only [i_lt, i_le, i_eq, i_0, i_1, i_2, i_3, i_4, i_5, i_6, i_8, i_9, i_10, i_12, i_16, i_20, i_m1] at h71; omega) | (exfalso; simp only [s_up, a_up, va_up, i_lt, i_le, i_eq, i_0, i_1, i_2, i_3, i_4, i_5, i_6, i_8, i_9, i_10, i_12, i_16, i_20, i_m1, ↓reduceIte, Nat.reduceEqDiff] at h71; omega)
              | succ pl ihp =>
                intro hpl A2 o2 y hy hA2 u2 g1 g2
                have ey : y.toInt = pl + 1 := by rw [hy]; exact i_n (by omega)
                have hS2 := hS0.up (n := n) ltP (A' := A2) (fun z hz => (u2 z (by omega)).trans (k3 z hz))
                have ho := hS2.1
                have q1 := hS2.2.1
                have hP := (u2 n (by omega)).trans hPM.1
                have hM := (u2 (n + 1) (by omega)).trans hPM.2
                have hgt : ls.getD pl 0 < i := hls.lt (by omega)
                have hco : sR S i (ls.getD pl 0) = ahd P M (S.2.1 1) i (ls.getD pl 0) := (ahd_c (hpm i hii).1 (hpm _ (Nat.lt_trans hgt hii)).1 (hpm i hii).2 (hpm _ (Nat.lt_trans hgt hii)).2).symm
                refine J_iload dX7_order_69 rfl ?_
                refine J_if_le (tgt := 164) dX7_order_71 rfl (fun h71 => ?_) (fun h71 => ?_)
                · first | (exfalso; simp only [i_lt, i_le, i_eq, i_0, i_1, i_2, i_3, i_4, i_5, i_6, i_8, i_9, i_10, i_12, i_16, i_20, i_m1] at h71; omega) | (exfalso; simp only [s_up, a_up, va_up, i_lt, i_le, i_eq, i_0, i_1, i_2, i_3, i_4, i_5, i_6, i_8, i_9, i_10, i_12, i_16, i_20, i_m1, ↓reduceIte, Nat.reduceEqDiff] at h71; omega)
                · refine J_aload_n dX7_order_74 rfl rfl ?_
                  refine J_iload dX7_order_75 rfl ?_
                  refine J_iconst (v := 1) dX7_order_77 (by decide) ?_
                  refine J_isub dX7_order_78 ?_
                  refine J_ialdN pl dX7_order_79 hA2 (by rw [hy, show (1 : Int32) = nI 1 from rfl, pk_sub (by omega)]; rfl) (by omega) (by omega) ?_
                  refine J_istore (L' := [(6, _), (5, _), (4, _), (3, _), (0, _), (1, _), (2, _)]) dX7_order_80 (by decide) rfl ?_
                  refine J_aload_n dX7_order_82 rfl rfl ?_
                  refine J_iload dX7_order_83 rfl ?_
                  refine J_ialdN (ls.getD pl 0) dX7_order_85 hP (g1 pl (by omega)) (by omega) (by omega) ?_
                  refine J_aload_n dX7_order_86 rfl rfl ?_
                  refine J_iload dX7_order_87 rfl ?_
                  refine J_ialdN i dX7_order_89 hP hx hii (by omega) ?_
                  refine J_icmp_eq (tgt := 107) dX7_order_90 rfl (fun h90 => ?_) (fun h90 => ?_)
                  · refine J_aload_n dX7_order_107 rfl rfl ?_
                    refine J_iload dX7_order_108 rfl ?_
                    refine J_ialdN (ls.getD pl 0) dX7_order_110 hM (g1 pl (by omega)) (by omega) (by omega) ?_
                    refine J_aload_n dX7_order_111 rfl rfl ?_
                    refine J_iload dX7_order_112 rfl ?_
                    refine J_ialdN i dX7_order_114 hM hx hii (by omega) ?_
                    refine J_icmp_eq (tgt := 132) dX7_order_115 rfl (fun h115 => ?_) (fun h115 => ?_)
                    · refine J_aload_n dX7_order_132 rfl rfl ?_
                      refine J_getf dX7_order_133 fl_X7_7 (ho) rfl ?_
                      refine J_iload dX7_order_136 rfl ?_
                      refine J_ialdN (ls.getD pl 0) dX7_order_138 q1 (g1 pl (by omega)) (by omega) (by decide) ?_
                      refine J_aload_n dX7_order_139 rfl rfl ?_
                      refine J_getf dX7_order_140 fl_X7_7 (ho) rfl ?_
                      refine J_iload dX7_order_143 rfl ?_
                      refine J_ialdN i dX7_order_145 q1 hx (by omega) (by decide) ?_
                      refine J_icmp_lt (tgt := 152) dX7_order_146 rfl (fun h146 => ?_) (fun h146 => ?_)
                      · have hyes : sR S i (ls.getD pl 0) = true := (by rw [hco]; first | exact ahd_y1 h90 h101 | exact ahd_y2 h90 h115 h126 | exact ahd_y3 h90 h115 h146)
                        refine J_aload_n dX7_order_152 rfl rfl ?_
                        refine J_iload dX7_order_153 rfl ?_
                        refine J_iload dX7_order_155 rfl ?_
                        refine J_iastQ (pl + 1) dX7_order_157 hA2 hy (by omega) (by omega) (fun A7 g7 o7 => ?_)
                        refine J_iinc (v := _ + (-1)) (L' := [(5, _), (6, _), (4, _), (3, _), (0, _), (1, _), (2, _)]) dX7_order_158 rfl rfl (by decide) rfl ?_
                        refine J_goto (tgt := 69) dX7_order_161 rfl ?_
                        refine xx_J.pick [0, 2, 3, 4, 5, 6] rfl ?_
                        exact ihp (by omega) _ (upd o2 (pl + 1) (o2 pl)) _ (by rw [hy]; exact pk_m1 pl) g7 (fun z hz => (o7 z (by omega)).trans (u2 z hz)) (fun q hq => by rw [pk_un (by omega)]; exact g1 q (by omega)) (fun q h1 h2 => by
                          by_cases hq : q = pl
                          · subst hq
                            refine ⟨by rw [pk_us]; exact g1 q (by omega), ?_⟩
                            exact hyes
                          · rw [pk_un (by omega)]; exact g2 q (by omega) h2)
                      · refine J_goto (tgt := 164) dX7_order_149 rfl ?_
                        refine xx_J.pick [1, 2, 3, 4, 5, 6] rfl ?_
                        exact out (pl + 1) hpl A2 o2 y hy hA2 u2 g1 g2 (Or.inr (by rw [Nat.add_sub_cancel, hco]; first | exact ahd_n1 h90 h101 | exact ahd_n2 h90 h115 h126 | exact ahd_n3 h90 h115 h146 hgt))
                    · refine J_aload_n dX7_order_118 rfl rfl ?_
                      refine J_iload dX7_order_119 rfl ?_
                      refine J_ialdN (ls.getD pl 0) dX7_order_121 hM (g1 pl (by omega)) (by omega) (by omega) ?_
                      refine J_aload_n dX7_order_122 rfl rfl ?_
                      refine J_iload dX7_order_123 rfl ?_
                      refine J_ialdN i dX7_order_125 hM hx hii (by omega) ?_
                      refine J_icmp_le (tgt := 152) dX7_order_126 rfl (fun h126 => ?_) (fun h126 => ?_)
                      · have hyes : sR S i (ls.getD pl 0) = true := (by rw [hco]; first | exact ahd_y1 h90 h101 | exact ahd_y2 h90 h115 h126 | exact ahd_y3 h90 h115 h146)
                        refine J_aload_n dX7_order_152 rfl rfl ?_
                        refine J_iload dX7_order_153 rfl ?_
                        refine J_iload dX7_order_155 rfl ?_
                        refine J_iastQ (pl + 1) dX7_order_157 hA2 hy (by omega) (by omega) (fun A7 g7 o7 => ?_)
                        refine J_iinc (v := _ + (-1)) (L' := [(5, _), (6, _), (4, _), (3, _), (0, _), (1, _), (2, _)]) dX7_order_158 rfl rfl (by decide) rfl ?_
                        refine J_goto (tgt := 69) dX7_order_161 rfl ?_
                        refine xx_J.pick [0, 2, 3, 4, 5, 6] rfl ?_
                        exact ihp (by omega) _ (upd o2 (pl + 1) (o2 pl)) _ (by rw [hy]; exact pk_m1 pl) g7 (fun z hz => (o7 z (by omega)).trans (u2 z hz)) (fun q hq => by rw [pk_un (by omega)]; exact g1 q (by omega)) (fun q h1 h2 => by
                          by_cases hq : q = pl
                          · subst hq
                            refine ⟨by rw [pk_us]; exact g1 q (by omega), ?_⟩
                            exact hyes
                          · rw [pk_un (by omega)]; exact g2 q (by omega) h2)
                      · refine J_goto (tgt := 164) dX7_order_129 rfl ?_
                        refine xx_J.pick [1, 2, 3, 4, 5, 6] rfl ?_
                        exact out (pl + 1) hpl A2 o2 y hy hA2 u2 g1 g2 (Or.inr (by rw [Nat.add_sub_cancel, hco]; first | exact ahd_n1 h90 h101 | exact ahd_n2 h90 h115 h126 | exact ahd_n3 h90 h115 h146 hgt))
                  · refine J_aload_n dX7_order_93 rfl rfl ?_
                    refine J_iload dX7_order_94 rfl ?_
                    refine J_ialdN (ls.getD pl 0) dX7_order_96 hP (g1 pl (by omega)) (by omega) (by omega) ?_
                    refine J_aload_n dX7_order_97 rfl rfl ?_
                    refine J_iload dX7_order_98 rfl ?_
                    refine J_ialdN i dX7_order_100 hP hx hii (by omega) ?_
                    refine J_icmp_le (tgt := 152) dX7_order_101 rfl (fun h101 => ?_) (fun h101 => ?_)
                    · have hyes : sR S i (ls.getD pl 0) = true := (by rw [hco]; first | exact ahd_y1 h90 h101 | exact ahd_y2 h90 h115 h126 | exact ahd_y3 h90 h115 h146)
                      refine J_aload_n dX7_order_152 rfl rfl ?_
                      refine J_iload dX7_order_153 rfl ?_
                      refine J_iload dX7_order_155 rfl ?_
                      refine J_iastQ (pl + 1) dX7_order_157 hA2 hy (by omega) (by omega) (fun A7 g7 o7 => ?_)
                      refine J_iinc (v := _ + (-1)) (L' := [(5, _), (6, _), (4, _), (3, _), (0, _), (1, _), (2, _)]) dX7_order_158 rfl rfl (by decide) rfl ?_
                      refine J_goto (tgt := 69) dX7_order_161 rfl ?_
                      refine xx_J.pick [0, 2, 3, 4, 5, 6] rfl ?_
                      exact ihp (by omega) _ (upd o2 (pl + 1) (o2 pl)) _ (by rw [hy]; exact pk_m1 pl) g7 (fun z hz => (o7 z (by omega)).trans (u2 z hz)) (fun q hq => by rw [pk_un (by omega)]; exact g1 q (by omega)) (fun q h1 h2 => by
                        by_cases hq : q = pl
                        · subst hq
                          refine ⟨by rw [pk_us]; exact g1 q (by omega), ?_⟩
                          exact hyes
                        · rw [pk_un (by omega)]; exact g2 q (by omega) h2)
                    · refine J_goto (tgt := 164) dX7_order_104 rfl ?_
                      refine xx_J.pick [1, 2, 3, 4, 5, 6] rfl ?_
                      exact out (pl + 1) hpl A2 o2 y hy hA2 u2 g1 g2 (Or.inr (by rw [Nat.add_sub_cancel, hco]; first | exact ahd_n1 h90 h101 | exact ahd_n2 h90 h115 h126 | exact ahd_n3 h90 h115 h146 hgt))
            refine J_iload dX7_order_56 rfl ?_
            refine J_aload_n dX7_order_58 rfl rfl ?_
            refine J_getf dX7_order_59 fl_X7_38 (ho) rfl ?_
            refine J_icmp_ge (tgt := 176) dX7_order_62 rfl (fun h62 => ?_) (fun h62 => ?_)
            · first | (exfalso; simp only [i_lt, i_le, i_eq, i_0, i_1, i_2, i_3, i_4, i_5, i_6, i_8, i_9, i_10, i_12, i_16, i_20, i_m1] at h62; omega) | (exfalso; simp only [s_up, a_up, va_up, i_lt, i_le, i_eq, i_0, i_1, i_2, i_3, i_4, i_5, i_6, i_8, i_9, i_10, i_12, i_16, i_20, i_m1, ↓reduceIte, Nat.reduceEqDiff] at h62; omega)
            · refine J_iload dX7_order_65 rfl ?_
              refine J_istore (L' := [(5, _), (4, _), (3, _), (0, _), (1, _), (2, _)]) dX7_order_67 (by decide) rfl ?_
              refine xx_J.pick [0, 1, 2, 3, 4, 5] rfl ?_
              exact inner i (Nat.le_refl _) _ _ _ hx hA3 u3 (fun q hq => hls.2.2 q hq) (fun q h1 h2 => by omega)
        refine xx_J.pick [0, 1, 4, 3, 2] rfl ?_
        exact outer 0 (Nat.zero_le _) A3 _ [] 0 rfl g3 (fun z hz => o3 z (by omega)) ⟨List.Perm.refl _, List.Pairwise.nil, fun p hp => absurd hp (Nat.not_lt_zero p)⟩
      · first | (exfalso; simp only [i_lt, i_le, i_eq, i_0, i_1, i_2, i_3, i_4, i_5, i_6, i_8, i_9, i_10, i_12, i_16, i_20, i_m1] at h21; omega) | (exfalso; simp only [s_up, a_up, va_up, i_lt, i_le, i_eq, i_0, i_1, i_2, i_3, i_4, i_5, i_6, i_8, i_9, i_10, i_12, i_16, i_20, i_m1, ↓reduceIte, Nat.reduceEqDiff] at h21; omega)
    · intro i hii ih x  A1  P M   hx h1 h2 h3 h4
      have ex : x.toInt = i := by rw [hx]; exact i_n (by omega)
      have hS1 := hS0.up (n := n) ltP h3
      have ho := hS1.1
      refine J_iload_n dX7_order_16 rfl rfl ?_
      refine J_aload_n dX7_order_17 rfl rfl ?_
      refine J_getf dX7_order_18 fl_X7_38 (ho) rfl ?_
      refine J_icmp_ge (tgt := 46) dX7_order_21 rfl (fun h21 => ?_) (fun h21 => ?_)
      · first | (exfalso; simp only [i_lt, i_le, i_eq, i_0, i_1, i_2, i_3, i_4, i_5, i_6, i_8, i_9, i_10, i_12, i_16, i_20, i_m1] at h21; omega) | (exfalso; simp only [s_up, a_up, va_up, i_lt, i_le, i_eq, i_0, i_1, i_2, i_3, i_4, i_5, i_6, i_8, i_9, i_10, i_12, i_16, i_20, i_m1, ↓reduceIte, Nat.reduceEqDiff] at h21; omega)
      · refine J_aload_n dX7_order_24 rfl rfl ?_
        refine J_iload_n dX7_order_25 rfl rfl ?_
        refine J_aload_n dX7_order_26 rfl rfl ?_
        refine J_iload_n dX7_order_27 rfl rfl ?_
        refine J_callVr (As := [_]) dX7_order_28 ml_X7_57 cal_X7_points im_X7_points se_X7_points (ho) rfl rfl rfl (Nat.le_of_ble_eq_true rfl) ⟨by decide, by decide⟩ ⟨by omega, by omega⟩ (c_X7_points hst hS1 hnb hnr x) ?_
        refine J_iastQ i dX7_order_31 h1 hx hii (by omega) (fun A4 g4 o4 => ?_)
        have hS4 := hS0.up (n := n) ltP (A' := A4) (fun z hz => (o4 z (by omega)).trans (h3 z hz))
        have ho := hS4.1
        refine J_aload_n dX7_order_32 rfl rfl ?_
        refine J_iload_n dX7_order_33 rfl rfl ?_
        refine J_aload_n dX7_order_34 rfl rfl ?_
        refine J_iload_n dX7_order_35 rfl rfl ?_
        refine J_callVr (As := [_]) dX7_order_36 ml_X7_66 cal_X7_ofMet im_X7_ofMet se_X7_ofMet (ho) rfl rfl rfl (Nat.le_of_ble_eq_true rfl) ⟨by decide, by decide⟩ ⟨by omega, by omega⟩ (c_X7_ofMet hst hS4 hnb hnr x) ?_
        refine J_iastQ i dX7_order_39 ((o4 (n + 1) (by omega)).trans h2) hx hii (by omega) (fun A5 g5 o5 => ?_)
        refine J_iinc (v := _ + 1) (L' := [(3, _), (2, _), (1, _), (0, _)]) dX7_order_40 rfl rfl (by decide) rfl ?_
        refine J_goto (tgt := 16) dX7_order_43 rfl ?_
        refine xx_J.pick [0, 1, 2, 3] rfl ?_
        exact ih _ _ _ _  (by rw [hx]; exact nI_1 i) ((o5 n (by omega)).trans g4) g5 (fun z hz => (o5 z (by omega)).trans ((o4 z (by omega)).trans (h3 z hz))) (ord_st hx h4)
  refine xx_J.pick [0, 1, 2, 3] rfl ?_
  exact loop 0 (by omega) _ _ _ _  rfl ((o2 n (by omega)).trans g1) g2 (fun z hz => (o2 z (by omega)).trans (o1 z (by omega))) (fun p hp => absurd hp (Nat.not_lt_zero p))
end XSO
