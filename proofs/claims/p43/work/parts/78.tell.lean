/-! Sim.ruled, tellAll -/
section XTL
variable {G : xx_G} {l : Launch} {A A' : xx_H} {n : Nat} {k j i q s e t d : Nat}
/-- the rules stand -/
def rulH (S : sS) (tt : Nat → Option (Tr 4)) (A : xx_H) : Prop := A (S.2.2 4) = some (.inl (0, S.2.2 6, .inl (S.2.1 3))) ∧ ∃ f, A (S.2.2 5) = some (.inl (5, S.2.2 6, .inr (.inr (.inr (.inr f))))) ∧ ∀ i, i < S.2.2 6 → (tt i = none ∧ f i = none) ∨ ∃ t v, tt i = some t ∧ f i = some v ∧ trA A 4 v t ∧ trK 4 t
def ruF (S : sS) (tt : Nat → Option (Tr 4)) (b : Nat → Int32) : Nat → Nat → Int32
  | 0, _ => 1
  | d + 1, i => if (∀ t, tt i = some t → trV S b 4 t = 1) then S.2.1 3 i else ruF S tt b d (i + 1)
/-- what the rules say of a bout -/
abbrev ruW (S : sS) (tt : Nat → Option (Tr 4)) (b : Nat → Int32) : Int32 := ruF S tt b (S.2.2 6) 0
theorem ruF_s {S : sS} {tt : Nat → Option (Tr 4)} {b : Nat → Int32} {m i : Nat} (h : i < m) : ruF S tt b (m - i) i = if (∀ t, tt i = some t → trV S b 4 t = 1) then S.2.1 3 i else ruF S tt b (m - (i + 1)) (i + 1) := by
  rw [show m - i = (m - (i + 1)) + 1 from by omega]
  rfl
abbrev b12 (b : Nat → Int32) : Prop := ∀ q, q < 2 → ∃ r, b (1 + q) = nI r ∧ r < 12
set_option maxRecDepth 100000 in
set_option maxHeartbeats 4000000 in
theorem c_X7_ruled (hst : l.stackTraces = false) {h : Nat} {S : sS} (hS : simW h S A) (hnb : S.2.2 1 < 1000) (hnr : S.2.2 3 < 1000) {w : Nat} {b : Nat → Int32} {tt : Nat → Option (Tr 4)} (hR : rulH S tt A) (h6 : S.2.2 6 < 100) (hw : A w = some (.inl (0, 5, .inl b))) (hb : b12 b) : xx_C G l yX7_ruled mX7_ruled 8 243 0 0 [.ref h, .ref w] A n (xx_ro (some (.int (ruW S tt b))) A n) := by
  have hS0 := hS
  obtain ⟨ho, p1, p2, p6, -, -, pr⟩ := hS
  obtain ⟨r1, fT, r2, r3⟩ := hR
  have en : (nI (S.2.2 6)).toInt = S.2.2 6 := i_n (by omega)
  refine J_C hst (by decide +kernel) rfl rfl rfl (Nat.le_of_ble_eq_true rfl) ?_
  show xx_J _ _ _ _ _ _ _ _ 0 [(0, _), (1, _)] [] _ _ _ _
  refine J_iconst (v := 0) dX7_ruled_0 (by decide) ?_
  refine J_istore_n (L' := [(2, _), (0, _), (1, _)]) dX7_ruled_1 rfl (by decide) rfl ?_
  have loop : ∀ i, i ≤ S.2.2 6 → ∀ x : Int32, x = nI i → ruW S tt b = ruF S tt b (S.2.2 6 - i) i → xx_J G l mX7_ruled 8 243 0 0 (xx_ro (some (.int (ruW S tt b))) A n) 2 [(2, .int x), (0, .ref h), (1, .ref w)] [] A n 0 0 := by
    refine xx_dn ?_ ?_
    · intro x hx hg
      have ex : x.toInt = S.2.2 6 := by rw [hx]; exact i_n (by omega)
      refine J_iload_n dX7_ruled_2 rfl rfl ?_
      refine J_aload_n dX7_ruled_3 rfl rfl ?_
      refine J_getf dX7_ruled_4 fl_X7_16 (ho) rfl ?_
      refine J_alen (v := nI (S.2.2 6)) dX7_ruled_7 r1 (by decide) rfl ?_
      refine J_icmp_ge (tgt := 48) dX7_ruled_8 rfl (fun h8 => ?_) (fun h8 => ?_)
      · refine J_iconst (v := 1) dX7_ruled_48 (by decide) ?_
        refine J_ireturn dX7_ruled_49 rfl rfl (by decide) (by decide) ?_
        exact ⟨by rw [hg, Nat.sub_self]; rfl, rfl, rfl⟩
      · first | (exfalso; simp only [i_lt, i_le, i_eq, i_0, i_1, i_2, i_3, i_4, i_5, i_6, i_8, i_9, i_10, i_12, i_16, i_20, i_m1] at h8; omega) | (exfalso; simp only [s_up, a_up, va_up, i_lt, i_le, i_eq, i_0, i_1, i_2, i_3, i_4, i_5, i_6, i_8, i_9, i_10, i_12, i_16, i_20, i_m1, ↓reduceIte, Nat.reduceEqDiff] at h8; omega)
    · intro i hii ih x hx hg
      have ex : x.toInt = i := by rw [hx]; exact i_n (by omega)
      rw [ruF_s hii] at hg
      rcases r3 i hii with ⟨t1, t2⟩ | ⟨t, v, t1, t2, t3, t4⟩
      · refine J_iload_n dX7_ruled_2 rfl rfl ?_
        refine J_aload_n dX7_ruled_3 rfl rfl ?_
        refine J_getf dX7_ruled_4 fl_X7_16 (ho) rfl ?_
        refine J_alen (v := nI (S.2.2 6)) dX7_ruled_7 r1 (by decide) rfl ?_
        refine J_icmp_ge (tgt := 48) dX7_ruled_8 rfl (fun h8 => ?_) (fun h8 => ?_)
        · first | (exfalso; simp only [i_lt, i_le, i_eq, i_0, i_1, i_2, i_3, i_4, i_5, i_6, i_8, i_9, i_10, i_12, i_16, i_20, i_m1] at h8; omega) | (exfalso; simp only [s_up, a_up, va_up, i_lt, i_le, i_eq, i_0, i_1, i_2, i_3, i_4, i_5, i_6, i_8, i_9, i_10, i_12, i_16, i_20, i_m1, ↓reduceIte, Nat.reduceEqDiff] at h8; omega)
        · refine J_aload_n dX7_ruled_11 rfl rfl ?_
          refine J_getf dX7_ruled_12 fl_X7_21 (ho) rfl ?_
          refine J_iload_n dX7_ruled_15 rfl rfl ?_
          refine J_aaldK (v := none) (Or.inr (Or.inr (Or.inl rfl))) dX7_ruled_16 r2 (by rw [hx]; exact vp_in_nI hii (by omega)) (by rw [hx, nI_clamp (by omega)]; exact t2) ?_
          refine J_ifnullN (tgt := 35) dX7_ruled_17 rfl ?_
          refine J_aload_n dX7_ruled_35 rfl rfl ?_
          refine J_getf dX7_ruled_36 fl_X7_16 (ho) rfl ?_
          refine J_iload_n dX7_ruled_39 rfl rfl ?_
          refine J_ialdN i dX7_ruled_40 r1 hx hii (by omega) ?_
          refine J_ireturn dX7_ruled_41 rfl rfl (by decide) (by decide) ?_
          exact ⟨by rw [hg, if_pos (fun u hu => by rw [t1] at hu; cases hu)], rfl, rfl⟩
      · obtain ⟨fa9, ca⟩ := trA.cell _ _ _ t3
        have hch : (∀ u, tt i = some u → trV S b 4 u = 1) ↔ trV S b 4 t = 1 := ⟨fun z => z t t1, fun z u hu => by rw [t1] at hu; cases hu; exact z⟩
        refine J_iload_n dX7_ruled_2 rfl rfl ?_
        refine J_aload_n dX7_ruled_3 rfl rfl ?_
        refine J_getf dX7_ruled_4 fl_X7_16 (ho) rfl ?_
        refine J_alen (v := nI (S.2.2 6)) dX7_ruled_7 r1 (by decide) rfl ?_
        refine J_icmp_ge (tgt := 48) dX7_ruled_8 rfl (fun h8 => ?_) (fun h8 => ?_)
        · first | (exfalso; simp only [i_lt, i_le, i_eq, i_0, i_1, i_2, i_3, i_4, i_5, i_6, i_8, i_9, i_10, i_12, i_16, i_20, i_m1] at h8; omega) | (exfalso; simp only [s_up, a_up, va_up, i_lt, i_le, i_eq, i_0, i_1, i_2, i_3, i_4, i_5, i_6, i_8, i_9, i_10, i_12, i_16, i_20, i_m1, ↓reduceIte, Nat.reduceEqDiff] at h8; omega)
        · refine J_aload_n dX7_ruled_11 rfl rfl ?_
          refine J_getf dX7_ruled_12 fl_X7_21 (ho) rfl ?_
          refine J_iload_n dX7_ruled_15 rfl rfl ?_
          refine J_aaldR i dX7_ruled_16 (Or.inr (Or.inr (Or.inl rfl))) r2 hx hii (by omega) t2 ?_
          refine J_ifnull dX7_ruled_17 ?_
          refine J_aload_n dX7_ruled_20 rfl rfl ?_
          refine J_getf dX7_ruled_21 fl_X7_21 (ho) rfl ?_
          refine J_iload_n dX7_ruled_24 rfl rfl ?_
          refine J_aaldR i dX7_ruled_25 (Or.inr (Or.inr (Or.inl rfl))) r2 hx hii (by omega) t2 ?_
          refine J_aload_n dX7_ruled_26 rfl rfl ?_
          refine J_aload_n dX7_ruled_27 rfl rfl ?_
          refine J_callVr (As := [_, _]) dX7_ruled_28 ml_X7_102 cal_X8_of im_X8_of se_X8_of (ca) rfl rfl rfl (Nat.le_of_ble_eq_true rfl) ⟨by decide, by decide⟩ ⟨by decide, by decide⟩ (tof_all hst hS0 hnb hnr hw hb 4 v t t3 t4) ?_
          refine J_iconst (v := 1) dX7_ruled_31 (by decide) ?_
          refine J_icmp_ne (tgt := 42) dX7_ruled_32 rfl (fun h32 => ?_) (fun h32 => ?_)
          · refine J_iinc (v := _ + 1) (L' := [(2, _), (0, _), (1, _)]) dX7_ruled_42 rfl rfl (by decide) rfl ?_
            refine J_goto (tgt := 2) dX7_ruled_45 rfl ?_
            refine xx_J.pick [0, 1, 2] rfl ?_
            exact ih _ (by rw [hx]; exact nI_1 i) (by rw [hg, if_neg (fun z => h32 (hch.mp z))])
          · refine J_aload_n dX7_ruled_35 rfl rfl ?_
            refine J_getf dX7_ruled_36 fl_X7_16 (ho) rfl ?_
            refine J_iload_n dX7_ruled_39 rfl rfl ?_
            refine J_ialdN i dX7_ruled_40 r1 hx hii (by omega) ?_
            refine J_ireturn dX7_ruled_41 rfl rfl (by decide) (by decide) ?_
            exact ⟨by rw [hg, if_pos (hch.mpr h32)], rfl, rfl⟩
  refine xx_J.pick [0, 1, 2] rfl ?_
  exact loop 0 (Nat.zero_le _) _ rfl rfl
end XTL
