/-! THE REFERENCE: the order, who rests -/
section XS2
variable {G : xx_G} {l : Launch} {A A' : xx_H} {n : Nat} {bm bp bs bn ba : Nat} {vL nl : Nat → Int64} {M P S : xS}
theorem c_X9_ofMet (hst : l.stackTraces = false) (hM : xx_w bm (layM bp vL bn ba bm M) A) (hN : xx_w bp (layN nl bp P) A) (hS : xx_w bs (layS bs S) A) {nw : Nat} (hn : P.1 0 = nI nw) (h12 : nw ≤ 12) {w : Nat} {x0 : Int32} (hx0 : x0 = nI w) (hw : w < nw) : xx_C G l yX9_ofMet mX9_ofMet 1 22 0 0 [.ref bm, .ref bs, .int x0] A n (xx_ro (some (.int (rpts (fS S P) nw w))) A n) := by
  have hpz := hn
  refine J_C hst (by decide +kernel) rfl rfl rfl (Nat.le_of_ble_eq_true rfl) ?_
  show xx_J _ _ _ _ _ _ _ _ 0 [(0, _), (1, _), (2, _)] [] _ _ _ _
  refine J_iconst (v := 0) dX9_ofMet_0 (by decide) ?_
  refine J_istore_n (L' := [(3, _), (0, _), (1, _), (2, _)]) dX9_ofMet_1 rfl (by decide) rfl ?_
  refine J_iconst (v := 0) dX9_ofMet_2 (by decide) ?_
  refine J_istore (L' := [(4, _), (3, _), (0, _), (1, _), (2, _)]) dX9_ofMet_3 (by decide) rfl ?_
  have loop : ∀ i, i ≤ nw → ∀ (x acc : Int32) , (x = nI i) → (acc = bx_sum (fun o => S.2 10 (w * 12 + o) * S.2 1 o) i) → xx_J G l mX9_ofMet 1 22 0 0 (xx_ro (some (.int (rpts (fS S P) nw w))) A n) 5 [(4, .int x), (3, .int acc), (0, .ref bm), (1, .ref bs), (2, .int x0)] [] A n 0 0 := by
    refine xx_dn ?_ ?_
    · intro x acc   hx hacc
      have ep : (P.1 0).toInt = nw := by rw [hn]; exact i_n (by omega)
      have ex : x.toInt = nw := by rw [hx]; exact i_n (by omega)
      refine J_iload dX9_ofMet_5 rfl ?_
      refine J_aload_n dX9_ofMet_7 rfl rfl ?_
      refine J_getf dX9_ofMet_8 fl_X9_20 (hM.at 0 rfl) rfl ?_
      refine J_getf dX9_ofMet_11 fl_X9_65 (hN.at 0 rfl) rfl ?_
      refine J_icmp_ge (tgt := 41) dX9_ofMet_14 rfl (fun h14 => ?_) (fun h14 => ?_)
      · refine J_iload_n dX9_ofMet_41 rfl rfl ?_
        refine J_ireturn dX9_ofMet_42 rfl rfl (by decide) (by decide) ?_
        exact ⟨by rw [hacc, rp_eq h12], rfl, rfl⟩
      · first | (exfalso; simp only [i_lt, i_le, i_eq, i_0, i_1, i_2, i_3, i_4, i_5, i_6, i_8, i_9, i_10, i_12, i_16, i_20, i_m1, i_400, i_2000] at h14; omega) | (exfalso; simp only [s_up, a_up, va_up, i_lt, i_le, i_eq, i_0, i_1, i_2, i_3, i_4, i_5, i_6, i_8, i_9, i_10, i_12, i_16, i_20, i_m1, i_400, i_2000, ↓reduceIte, Nat.reduceEqDiff] at h14; omega)
    · intro i hii ih x acc   hx hacc
      have ep : (P.1 0).toInt = nw := by rw [hn]; exact i_n (by omega)
      have ex : x.toInt = i := by rw [hx]; exact i_n (by omega)
      refine J_iload dX9_ofMet_5 rfl ?_
      refine J_aload_n dX9_ofMet_7 rfl rfl ?_
      refine J_getf dX9_ofMet_8 fl_X9_20 (hM.at 0 rfl) rfl ?_
      refine J_getf dX9_ofMet_11 fl_X9_65 (hN.at 0 rfl) rfl ?_
      refine J_icmp_ge (tgt := 41) dX9_ofMet_14 rfl (fun h14 => ?_) (fun h14 => ?_)
      · first | (exfalso; simp only [i_lt, i_le, i_eq, i_0, i_1, i_2, i_3, i_4, i_5, i_6, i_8, i_9, i_10, i_12, i_16, i_20, i_m1, i_400, i_2000] at h14; omega) | (exfalso; simp only [s_up, a_up, va_up, i_lt, i_le, i_eq, i_0, i_1, i_2, i_3, i_4, i_5, i_6, i_8, i_9, i_10, i_12, i_16, i_20, i_m1, i_400, i_2000, ↓reduceIte, Nat.reduceEqDiff] at h14; omega)
      · refine J_iload_n dX9_ofMet_17 rfl rfl ?_
        refine J_aload_n dX9_ofMet_18 rfl rfl ?_
        refine J_iload_n dX9_ofMet_19 rfl rfl ?_
        refine J_iload dX9_ofMet_20 rfl ?_
        refine J_callVr (As := [_, _]) dX9_ofMet_22 ml_X9_72 cal_X8_met im_X8_met se_X8_met (hS.at 0 rfl) rfl rfl rfl (Nat.le_of_ble_eq_true rfl) ⟨by decide, by decide⟩ ⟨by decide, by decide⟩ (c_X8_met hst hS hx0 (by omega) hx (by omega)) ?_
        refine J_aload_n dX9_ofMet_25 rfl rfl ?_
        refine J_getf dX9_ofMet_26 fl_X9_76 (hS.at 0 rfl) rfl ?_
        refine J_iload dX9_ofMet_29 rfl ?_
        refine J_ialdN i dX9_ofMet_31 (hS.at 1 rfl) hx (by omega) (by decide) ?_
        refine J_imul dX9_ofMet_32 ?_
        refine J_iadd dX9_ofMet_33 ?_
        refine J_istore_n (L' := [(3, _), (4, _), (0, _), (1, _), (2, _)]) dX9_ofMet_34 rfl (by decide) rfl ?_
        refine J_iinc (v := _ + 1) (L' := [(4, _), (3, _), (0, _), (1, _), (2, _)]) dX9_ofMet_35 rfl rfl (by decide) rfl ?_
        refine J_goto (tgt := 5) dX9_ofMet_38 rfl ?_
        refine xx_J.pick [0, 1, 2, 3, 4] rfl ?_
        exact ih _ _  (by rw [hx]; exact nI_1 i) (by rw [hacc]; rfl)
  refine xx_J.pick [0, 1, 2, 3, 4] rfl ?_
  exact loop 0 (by omega) _ _  rfl rfl
/-- the points of those met are no great numbers -/
def bdP (F : xS) (nw : Nat) : Prop := ∀ w, w < nw → 0 ≤ (rpts F nw w).toInt ∧ (rpts F nw w).toInt < 2 ^ 30
theorem sub_i {a c : Int32} (ha : 0 ≤ a.toInt ∧ a.toInt < 2 ^ 30) (hc : 0 ≤ c.toInt ∧ c.toInt < 2 ^ 30) : (a - c).toInt = a.toInt - c.toInt := by
  rw [Int32.toInt_sub]
  exact Int.bmod_eq_of_le (by omega) (by omega)
set_option maxHeartbeats 4000000 in
theorem c_X9_isAhead (hst : l.stackTraces = false) (hM : xx_w bm (layM bp vL bn ba bm M) A) (hN : xx_w bp (layN nl bp P) A) (hS : xx_w bs (layS bs S) A) {nw : Nat} (hn : P.1 0 = nI nw) (h12 : nw ≤ 12) (hbd : bdP (fS S P) nw) {i j : Nat} {x y : Int32} (hx : x = nI i) (hi : i < nw) (hy : y = nI j) (hj : j < nw) : xx_C G l yX9_isAhead mX9_isAhead 2 46 0 0 [.ref bm, .ref bs, .int x, .int y] A n (xx_ro (some (.int (xx_b (f_R (fS S P) nw i j = true)))) A n) := by
  refine J_C hst (by decide +kernel) rfl rfl rfl (Nat.le_of_ble_eq_true rfl) ?_
  show xx_J _ _ _ _ _ _ _ _ 0 [(0, _), (1, _), (2, _), (3, _)] [] _ _ _ _
  refine J_aload_n dX9_isAhead_0 rfl rfl ?_
  refine J_getf dX9_isAhead_1 fl_X9_76 (hS.at 0 rfl) rfl ?_
  refine J_iload_n dX9_isAhead_4 rfl rfl ?_
  refine J_ialdN i dX9_isAhead_5 (hS.at 1 rfl) hx (by omega) (by decide) ?_
  refine J_aload_n dX9_isAhead_6 rfl rfl ?_
  refine J_getf dX9_isAhead_7 fl_X9_76 (hS.at 0 rfl) rfl ?_
  refine J_iload_n dX9_isAhead_10 rfl rfl ?_
  refine J_ialdN j dX9_isAhead_11 (hS.at 1 rfl) hy (by omega) (by decide) ?_
  refine J_icmp_eq (tgt := 36) dX9_isAhead_12 rfl (fun h12_ => ?_) (fun h12_ => ?_)
  · refine J_aload_n dX9_isAhead_36 rfl rfl ?_
    refine J_aload_n dX9_isAhead_37 rfl rfl ?_
    refine J_iload_n dX9_isAhead_38 rfl rfl ?_
    refine J_callVr (As := [_, _]) dX9_isAhead_39 ml_X9_79 cal_X9_ofMet im_X9_ofMet se_X9_ofMet (hM.at 0 rfl) rfl rfl rfl (Nat.le_of_ble_eq_true rfl) ⟨by decide, by decide⟩ ⟨by decide, by decide⟩ (c_X9_ofMet hst hM hN hS hn h12 hx hi) ?_
    refine J_aload_n dX9_isAhead_42 rfl rfl ?_
    refine J_aload_n dX9_isAhead_43 rfl rfl ?_
    refine J_iload_n dX9_isAhead_44 rfl rfl ?_
    refine J_callVr (As := [_, _]) dX9_isAhead_45 ml_X9_79 cal_X9_ofMet im_X9_ofMet se_X9_ofMet (hM.at 0 rfl) rfl rfl rfl (Nat.le_of_ble_eq_true rfl) ⟨by decide, by decide⟩ ⟨by decide, by decide⟩ (c_X9_ofMet hst hM hN hS hn h12 hy hj) ?_
    refine J_isub dX9_isAhead_48 ?_
    refine J_istore (L' := [(4, _), (0, _), (1, _), (2, _), (3, _)]) dX9_isAhead_49 (by decide) rfl ?_
    refine J_iload dX9_isAhead_51 rfl ?_
    refine J_if_eq (tgt := 67) dX9_isAhead_53 rfl (fun h53 => ?_) (fun h53 => ?_)
    · have dij := sub_i (hbd i hi) (hbd j hj)
      have q53 : (rpts (fS S P) nw i) = (rpts (fS S P) nw j) := by
        rw [i_eq] at h53 ⊢
        rw [dij, i_0] at h53
        omega
      refine J_aload_n dX9_isAhead_67 rfl rfl ?_
      refine J_getf dX9_isAhead_68 fl_X9_20 (hM.at 0 rfl) rfl ?_
      refine J_getf dX9_isAhead_71 fl_X9_83 (hN.at 0 rfl) rfl ?_
      refine J_iload_n dX9_isAhead_74 rfl rfl ?_
      refine J_ialdN i dX9_isAhead_75 (hN.at 2 rfl) hx (by omega) (by decide) ?_
      refine J_aload_n dX9_isAhead_76 rfl rfl ?_
      refine J_getf dX9_isAhead_77 fl_X9_20 (hM.at 0 rfl) rfl ?_
      refine J_getf dX9_isAhead_80 fl_X9_83 (hN.at 0 rfl) rfl ?_
      refine J_iload_n dX9_isAhead_83 rfl rfl ?_
      refine J_ialdN j dX9_isAhead_84 (hN.at 2 rfl) hy (by omega) (by decide) ?_
      refine J_icmp_eq (tgt := 117) dX9_isAhead_85 rfl (fun h85 => ?_) (fun h85 => ?_)
      · refine J_iload_n dX9_isAhead_117 rfl rfl ?_
        refine J_iload_n dX9_isAhead_118 rfl rfl ?_
        refine J_icmp_ge (tgt := 126) dX9_isAhead_119 rfl (fun h119 => ?_) (fun h119 => ?_)
        · refine J_iconst (v := 0) dX9_isAhead_126 (by decide) ?_
          refine J_ireturn dX9_isAhead_127 rfl rfl (by decide) (by decide) ?_
          refine ⟨congrArg (fun v => Sum.inl (some (Value.int v))) ?_, rfl, rfl⟩
          have p1 : f_pts (fS S P) i = S.2 1 i := fS_c (by omega)
          have p2 : f_pts (fS S P) j = S.2 1 j := fS_c (by omega)
          have p3 : f_str (fS S P) i = P.2 2 i := fS_c (by omega)
          have p4 : f_str (fS S P) j = P.2 2 j := fS_c (by omega)
          unfold f_R ahd xx_b
          simp only [p1, p2, p3, p4]
          first
            | (rw [if_neg h12_]; simp only [decide_eq_true_eq]; split <;> first | rfl | (exfalso; simp only [i_lt, i_le] at *; omega))
            | (rw [if_pos h12_, if_neg q53]; simp only [decide_eq_true_eq]; split <;> first | rfl | (exfalso; simp only [i_lt, i_le, i_0] at *; omega))
            | (rw [if_pos h12_, if_pos q53, if_neg h85]; simp only [decide_eq_true_eq]; split <;> first | rfl | (exfalso; simp only [i_lt, i_le] at *; omega))
            | (rw [if_pos h12_, if_pos q53, if_pos h85]; simp only [decide_eq_true_eq]; split <;> first | rfl | (exfalso; rw [hx, hy] at h119; simp only [i_le] at h119; rw [i_n (by omega), i_n (by omega)] at h119; omega))
        · refine J_iconst (v := 1) dX9_isAhead_122 (by decide) ?_
          refine J_goto (tgt := 127) dX9_isAhead_123 rfl ?_
          refine J_ireturn dX9_isAhead_127 rfl rfl (by decide) (by decide) ?_
          refine ⟨congrArg (fun v => Sum.inl (some (Value.int v))) ?_, rfl, rfl⟩
          have p1 : f_pts (fS S P) i = S.2 1 i := fS_c (by omega)
          have p2 : f_pts (fS S P) j = S.2 1 j := fS_c (by omega)
          have p3 : f_str (fS S P) i = P.2 2 i := fS_c (by omega)
          have p4 : f_str (fS S P) j = P.2 2 j := fS_c (by omega)
          unfold f_R ahd xx_b
          simp only [p1, p2, p3, p4]
          first
            | (rw [if_neg h12_]; simp only [decide_eq_true_eq]; split <;> first | rfl | (exfalso; simp only [i_lt, i_le] at *; omega))
            | (rw [if_pos h12_, if_neg q53]; simp only [decide_eq_true_eq]; split <;> first | rfl | (exfalso; simp only [i_lt, i_le, i_0] at *; omega))
            | (rw [if_pos h12_, if_pos q53, if_neg h85]; simp only [decide_eq_true_eq]; split <;> first | rfl | (exfalso; simp only [i_lt, i_le] at *; omega))
            | (rw [if_pos h12_, if_pos q53, if_pos h85]; simp only [decide_eq_true_eq]; split <;> first | rfl | (exfalso; rw [hx, hy] at h119; simp only [i_le] at h119; rw [i_n (by omega), i_n (by omega)] at h119; omega))
      · refine J_aload_n dX9_isAhead_88 rfl rfl ?_
        refine J_getf dX9_isAhead_89 fl_X9_20 (hM.at 0 rfl) rfl ?_
        refine J_getf dX9_isAhead_92 fl_X9_83 (hN.at 0 rfl) rfl ?_
        refine J_iload_n dX9_isAhead_95 rfl rfl ?_
        refine J_ialdN i dX9_isAhead_96 (hN.at 2 rfl) hx (by omega) (by decide) ?_
        refine J_aload_n dX9_isAhead_97 rfl rfl ?_
        refine J_getf dX9_isAhead_98 fl_X9_20 (hM.at 0 rfl) rfl ?_
        refine J_getf dX9_isAhead_101 fl_X9_83 (hN.at 0 rfl) rfl ?_
        refine J_iload_n dX9_isAhead_104 rfl rfl ?_
        refine J_ialdN j dX9_isAhead_105 (hN.at 2 rfl) hy (by omega) (by decide) ?_
        refine J_icmp_le (tgt := 113) dX9_isAhead_106 rfl (fun h106 => ?_) (fun h106 => ?_)
        · refine J_iconst (v := 0) dX9_isAhead_113 (by decide) ?_
          refine J_goto (tgt := 127) dX9_isAhead_114 rfl ?_
          refine J_ireturn dX9_isAhead_127 rfl rfl (by decide) (by decide) ?_
          refine ⟨congrArg (fun v => Sum.inl (some (Value.int v))) ?_, rfl, rfl⟩
          have p1 : f_pts (fS S P) i = S.2 1 i := fS_c (by omega)
          have p2 : f_pts (fS S P) j = S.2 1 j := fS_c (by omega)
          have p3 : f_str (fS S P) i = P.2 2 i := fS_c (by omega)
          have p4 : f_str (fS S P) j = P.2 2 j := fS_c (by omega)
          unfold f_R ahd xx_b
          simp only [p1, p2, p3, p4]
          first
            | (rw [if_neg h12_]; simp only [decide_eq_true_eq]; split <;> first | rfl | (exfalso; simp only [i_lt, i_le] at *; omega))
            | (rw [if_pos h12_, if_neg q53]; simp only [decide_eq_true_eq]; split <;> first | rfl | (exfalso; simp only [i_lt, i_le, i_0] at *; omega))
            | (rw [if_pos h12_, if_pos q53, if_neg h85]; simp only [decide_eq_true_eq]; split <;> first | rfl | (exfalso; simp only [i_lt, i_le] at *; omega))
            | (rw [if_pos h12_, if_pos q53, if_pos h85]; simp only [decide_eq_true_eq]; split <;> first | rfl | (exfalso; rw [hx, hy] at h119; simp only [i_le] at h119; rw [i_n (by omega), i_n (by omega)] at h119; omega))
        · refine J_iconst (v := 1) dX9_isAhead_109 (by decide) ?_
          refine J_goto (tgt := 127) dX9_isAhead_110 rfl ?_
          refine J_ireturn dX9_isAhead_127 rfl rfl (by decide) (by decide) ?_
          refine ⟨congrArg (fun v => Sum.inl (some (Value.int v))) ?_, rfl, rfl⟩
          have p1 : f_pts (fS S P) i = S.2 1 i := fS_c (by omega)
          have p2 : f_pts (fS S P) j = S.2 1 j := fS_c (by omega)
          have p3 : f_str (fS S P) i = P.2 2 i := fS_c (by omega)
          have p4 : f_str (fS S P) j = P.2 2 j := fS_c (by omega)
          unfold f_R ahd xx_b
          simp only [p1, p2, p3, p4]
          first
            | (rw [if_neg h12_]; simp only [decide_eq_true_eq]; split <;> first | rfl | (exfalso; simp only [i_lt, i_le] at *; omega))
            | (rw [if_pos h12_, if_neg q53]; simp only [decide_eq_true_eq]; split <;> first | rfl | (exfalso; simp only [i_lt, i_le, i_0] at *; omega))
            | (rw [if_pos h12_, if_pos q53, if_neg h85]; simp only [decide_eq_true_eq]; split <;> first | rfl | (exfalso; simp only [i_lt, i_le] at *; omega))
            | (rw [if_pos h12_, if_pos q53, if_pos h85]; simp only [decide_eq_true_eq]; split <;> first | rfl | (exfalso; rw [hx, hy] at h119; simp only [i_le] at h119; rw [i_n (by omega), i_n (by omega)] at h119; omega))
    · have dij := sub_i (hbd i hi) (hbd j hj)
      have q53 : ¬ (rpts (fS S P) nw i) = (rpts (fS S P) nw j) := fun z => h53 (by rw [z, Int32.sub_self])
      refine J_iload dX9_isAhead_56 rfl ?_
      refine J_if_le (tgt := 65) dX9_isAhead_58 rfl (fun h58 => ?_) (fun h58 => ?_)
      · refine J_iconst (v := 0) dX9_isAhead_65 (by decide) ?_
        refine J_ireturn dX9_isAhead_66 rfl rfl (by decide) (by decide) ?_
        refine ⟨congrArg (fun v => Sum.inl (some (Value.int v))) ?_, rfl, rfl⟩
        have p1 : f_pts (fS S P) i = S.2 1 i := fS_c (by omega)
        have p2 : f_pts (fS S P) j = S.2 1 j := fS_c (by omega)
        have p3 : f_str (fS S P) i = P.2 2 i := fS_c (by omega)
        have p4 : f_str (fS S P) j = P.2 2 j := fS_c (by omega)
        unfold f_R ahd xx_b
        simp only [p1, p2, p3, p4]
        first
          | (rw [if_neg h12_]; simp only [decide_eq_true_eq]; split <;> first | rfl | (exfalso; simp only [i_lt, i_le] at *; omega))
          | (rw [if_pos h12_, if_neg q53]; simp only [decide_eq_true_eq]; split <;> first | rfl | (exfalso; simp only [i_lt, i_le, i_0] at *; omega))
          | (rw [if_pos h12_, if_pos q53, if_neg h85]; simp only [decide_eq_true_eq]; split <;> first | rfl | (exfalso; simp only [i_lt, i_le] at *; omega))
          | (rw [if_pos h12_, if_pos q53, if_pos h85]; simp only [decide_eq_true_eq]; split <;> first | rfl | (exfalso; rw [hx, hy] at h119; simp only [i_le] at h119; rw [i_n (by omega), i_n (by omega)] at h119; omega))
      · refine J_iconst (v := 1) dX9_isAhead_61 (by decide) ?_
        refine J_goto (tgt := 66) dX9_isAhead_62 rfl ?_
        refine J_ireturn dX9_isAhead_66 rfl rfl (by decide) (by decide) ?_
        refine ⟨congrArg (fun v => Sum.inl (some (Value.int v))) ?_, rfl, rfl⟩
        have p1 : f_pts (fS S P) i = S.2 1 i := fS_c (by omega)
        have p2 : f_pts (fS S P) j = S.2 1 j := fS_c (by omega)
        have p3 : f_str (fS S P) i = P.2 2 i := fS_c (by omega)
        have p4 : f_str (fS S P) j = P.2 2 j := fS_c (by omega)
        unfold f_R ahd xx_b
        simp only [p1, p2, p3, p4]
        first
          | (rw [if_neg h12_]; simp only [decide_eq_true_eq]; split <;> first | rfl | (exfalso; simp only [i_lt, i_le] at *; omega))
          | (rw [if_pos h12_, if_neg q53]; simp only [decide_eq_true_eq]; split <;> first | rfl | (exfalso; simp only [i_lt, i_le, i_0] at *; omega))
          | (rw [if_pos h12_, if_pos q53, if_neg h85]; simp only [decide_eq_true_eq]; split <;> first | rfl | (exfalso; simp only [i_lt, i_le] at *; omega))
          | (rw [if_pos h12_, if_pos q53, if_pos h85]; simp only [decide_eq_true_eq]; split <;> first | rfl | (exfalso; rw [hx, hy] at h119; simp only [i_le] at h119; rw [i_n (by omega), i_n (by omega)] at h119; omega))
  · refine J_aload_n dX9_isAhead_15 rfl rfl ?_
    refine J_getf dX9_isAhead_16 fl_X9_76 (hS.at 0 rfl) rfl ?_
    refine J_iload_n dX9_isAhead_19 rfl rfl ?_
    refine J_ialdN i dX9_isAhead_20 (hS.at 1 rfl) hx (by omega) (by decide) ?_
    refine J_aload_n dX9_isAhead_21 rfl rfl ?_
    refine J_getf dX9_isAhead_22 fl_X9_76 (hS.at 0 rfl) rfl ?_
    refine J_iload_n dX9_isAhead_25 rfl rfl ?_
    refine J_ialdN j dX9_isAhead_26 (hS.at 1 rfl) hy (by omega) (by decide) ?_
    refine J_icmp_le (tgt := 34) dX9_isAhead_27 rfl (fun h27 => ?_) (fun h27 => ?_)
    · refine J_iconst (v := 0) dX9_isAhead_34 (by decide) ?_
      refine J_ireturn dX9_isAhead_35 rfl rfl (by decide) (by decide) ?_
      refine ⟨congrArg (fun v => Sum.inl (some (Value.int v))) ?_, rfl, rfl⟩
      have p1 : f_pts (fS S P) i = S.2 1 i := fS_c (by omega)
      have p2 : f_pts (fS S P) j = S.2 1 j := fS_c (by omega)
      have p3 : f_str (fS S P) i = P.2 2 i := fS_c (by omega)
      have p4 : f_str (fS S P) j = P.2 2 j := fS_c (by omega)
      unfold f_R ahd xx_b
      simp only [p1, p2, p3, p4]
      first
        | (rw [if_neg h12_]; simp only [decide_eq_true_eq]; split <;> first | rfl | (exfalso; simp only [i_lt, i_le] at *; omega))
        | (rw [if_pos h12_, if_neg q53]; simp only [decide_eq_true_eq]; split <;> first | rfl | (exfalso; simp only [i_lt, i_le, i_0] at *; omega))
        | (rw [if_pos h12_, if_pos q53, if_neg h85]; simp only [decide_eq_true_eq]; split <;> first | rfl | (exfalso; simp only [i_lt, i_le] at *; omega))
        | (rw [if_pos h12_, if_pos q53, if_pos h85]; simp only [decide_eq_true_eq]; split <;> first | rfl | (exfalso; rw [hx, hy] at h119; simp only [i_le] at h119; rw [i_n (by omega), i_n (by omega)] at h119; omega))
    · refine J_iconst (v := 1) dX9_isAhead_30 (by decide) ?_
      refine J_goto (tgt := 35) dX9_isAhead_31 rfl ?_
      refine J_ireturn dX9_isAhead_35 rfl rfl (by decide) (by decide) ?_
      refine ⟨congrArg (fun v => Sum.inl (some (Value.int v))) ?_, rfl, rfl⟩
      have p1 : f_pts (fS S P) i = S.2 1 i := fS_c (by omega)
      have p2 : f_pts (fS S P) j = S.2 1 j := fS_c (by omega)
      have p3 : f_str (fS S P) i = P.2 2 i := fS_c (by omega)
      have p4 : f_str (fS S P) j = P.2 2 j := fS_c (by omega)
      unfold f_R ahd xx_b
      simp only [p1, p2, p3, p4]
      first
        | (rw [if_neg h12_]; simp only [decide_eq_true_eq]; split <;> first | rfl | (exfalso; simp only [i_lt, i_le] at *; omega))
        | (rw [if_pos h12_, if_neg q53]; simp only [decide_eq_true_eq]; split <;> first | rfl | (exfalso; simp only [i_lt, i_le, i_0] at *; omega))
        | (rw [if_pos h12_, if_pos q53, if_neg h85]; simp only [decide_eq_true_eq]; split <;> first | rfl | (exfalso; simp only [i_lt, i_le] at *; omega))
        | (rw [if_pos h12_, if_pos q53, if_pos h85]; simp only [decide_eq_true_eq]; split <;> first | rfl | (exfalso; rw [hx, hy] at h119; simp only [i_le] at h119; rw [i_n (by omega), i_n (by omega)] at h119; omega))
/-- how many stand ahead of w -/
def rkN (R : Nat → Nat → Bool) (nw w : Nat) : Nat := (List.range nw).countP (fun a => R a w)
theorem rkN_s {R : Nat → Nat → Bool} {i w : Nat} : rkN R (i + 1) w = rkN R i w + (if R i w = true then 1 else 0) := by
  unfold rkN
  rw [List.range_succ, List.countP_append]
  simp [List.countP_cons]
theorem rkN_le {R : Nat → Nat → Bool} {nw w : Nat} : rkN R nw w ≤ nw := by
  unfold rkN
  exact Nat.le_trans List.countP_le_length (by simp)
set_option maxHeartbeats 4000000 in
theorem c_X9_rank (hst : l.stackTraces = false) (hM : xx_w bm (layM bp vL bn ba bm M) A) (hN : xx_w bp (layN nl bp P) A) (hS : xx_w bs (layS bs S) A) {nw : Nat} (hn : P.1 0 = nI nw) (h12 : nw ≤ 12) (hbd : bdP (fS S P) nw) {w : Nat} {x0 : Int32} (hx0 : x0 = nI w) (hw : w < nw) : xx_C G l yX9_rank mX9_rank 3 70 0 0 [.ref bm, .ref bs, .int x0] A n (xx_ro (some (.int (nI (rkN (f_R (fS S P) nw) nw w)))) A n) := by
  refine J_C hst (by decide +kernel) rfl rfl rfl (Nat.le_of_ble_eq_true rfl) ?_
  show xx_J _ _ _ _ _ _ _ _ 0 [(0, _), (1, _), (2, _)] [] _ _ _ _
  refine J_iconst (v := 0) dX9_rank_0 (by decide) ?_
  refine J_istore_n (L' := [(3, _), (0, _), (1, _), (2, _)]) dX9_rank_1 rfl (by decide) rfl ?_
  refine J_iconst (v := 0) dX9_rank_2 (by decide) ?_
  refine J_istore (L' := [(4, _), (3, _), (0, _), (1, _), (2, _)]) dX9_rank_3 (by decide) rfl ?_
  have loop : ∀ i, i ≤ nw → ∀ (x acc : Int32) , (x = nI i) → (acc = nI (rkN (f_R (fS S P) nw) i w)) → xx_J G l mX9_rank 3 70 0 0 (xx_ro (some (.int (nI (rkN (f_R (fS S P) nw) nw w)))) A n) 5 [(4, .int x), (3, .int acc), (0, .ref bm), (1, .ref bs), (2, .int x0)] [] A n 0 0 := by
    refine xx_dn ?_ ?_
    · intro x acc   hx hacc
      have ep : (P.1 0).toInt = nw := by rw [hn]; exact i_n (by omega)
      have ex : x.toInt = nw := by rw [hx]; exact i_n (by omega)
      refine J_iload dX9_rank_5 rfl ?_
      refine J_aload_n dX9_rank_7 rfl rfl ?_
      refine J_getf dX9_rank_8 fl_X9_20 (hM.at 0 rfl) rfl ?_
      refine J_getf dX9_rank_11 fl_X9_65 (hN.at 0 rfl) rfl ?_
      refine J_icmp_ge (tgt := 48) dX9_rank_14 rfl (fun h14 => ?_) (fun h14 => ?_)
      · refine J_iload_n dX9_rank_48 rfl rfl ?_
        refine J_ireturn dX9_rank_49 rfl rfl (by decide) (by decide) ?_
        exact ⟨by rw [hacc], rfl, rfl⟩
      · first | (exfalso; simp only [i_lt, i_le, i_eq, i_0, i_1, i_2, i_3, i_4, i_5, i_6, i_8, i_9, i_10, i_12, i_16, i_20, i_m1, i_400, i_2000] at h14; omega) | (exfalso; simp only [s_up, a_up, va_up, i_lt, i_le, i_eq, i_0, i_1, i_2, i_3, i_4, i_5, i_6, i_8, i_9, i_10, i_12, i_16, i_20, i_m1, i_400, i_2000, ↓reduceIte, Nat.reduceEqDiff] at h14; omega)
    · intro i hii ih x acc   hx hacc
      have ep : (P.1 0).toInt = nw := by rw [hn]; exact i_n (by omega)
      have ex : x.toInt = i := by rw [hx]; exact i_n (by omega)
      refine J_iload dX9_rank_5 rfl ?_
      refine J_aload_n dX9_rank_7 rfl rfl ?_
      refine J_getf dX9_rank_8 fl_X9_20 (hM.at 0 rfl) rfl ?_
      refine J_getf dX9_rank_11 fl_X9_65 (hN.at 0 rfl) rfl ?_
      refine J_icmp_ge (tgt := 48) dX9_rank_14 rfl (fun h14 => ?_) (fun h14 => ?_)
      · first | (exfalso; simp only [i_lt, i_le, i_eq, i_0, i_1, i_2, i_3, i_4, i_5, i_6, i_8, i_9, i_10, i_12, i_16, i_20, i_m1, i_400, i_2000] at h14; omega) | (exfalso; simp only [s_up, a_up, va_up, i_lt, i_le, i_eq, i_0, i_1, i_2, i_3, i_4, i_5, i_6, i_8, i_9, i_10, i_12, i_16, i_20, i_m1, i_400, i_2000, ↓reduceIte, Nat.reduceEqDiff] at h14; omega)
      · refine J_iload_n dX9_rank_17 rfl rfl ?_
        refine J_iload dX9_rank_18 rfl ?_
        refine J_iload_n dX9_rank_20 rfl rfl ?_
        refine J_icmp_eq (tgt := 39) dX9_rank_21 rfl (fun h21 => ?_) (fun h21 => ?_)
        · refine J_iconst (v := 0) dX9_rank_39 (by decide) ?_
          refine J_iadd dX9_rank_40 ?_
          refine J_istore_n (L' := [(3, _), (4, _), (0, _), (1, _), (2, _)]) dX9_rank_41 rfl (by decide) rfl ?_
          refine J_iinc (v := _ + 1) (L' := [(4, _), (3, _), (0, _), (1, _), (2, _)]) dX9_rank_42 rfl rfl (by decide) rfl ?_
          refine J_goto (tgt := 5) dX9_rank_45 rfl ?_
          refine xx_J.pick [0, 1, 2, 3, 4] rfl ?_
          exact ih _ _  (by rw [hx]; exact nI_1 i) (by rw [hacc, rkN_s]; first | (rw [if_pos h32]; exact nI_1 _) | (rw [if_neg h32]; simp) | (have ew : i = w := (by rw [hx, hx0, i_eq, i_n (by omega), i_n (by omega)] at h21; omega); subst ew; rw [if_neg (fun z => by have z2 : f_R (fS S P) nw i i = false := (ahd_sto _ _ _).2.2 _; exact Bool.false_ne_true (z2.symm.trans z))]; simp))
        · refine J_aload_n dX9_rank_24 rfl rfl ?_
          refine J_aload_n dX9_rank_25 rfl rfl ?_
          refine J_iload dX9_rank_26 rfl ?_
          refine J_iload_n dX9_rank_28 rfl rfl ?_
          refine J_callVr (As := [_, _, _]) dX9_rank_29 ml_X9_86 cal_X9_isAhead im_X9_isAhead se_X9_isAhead (hM.at 0 rfl) rfl rfl rfl (Nat.le_of_ble_eq_true rfl) ⟨by decide, by decide⟩ ⟨by decide, by decide⟩ (c_X9_isAhead hst hM hN hS hn h12 hbd hx hii hx0 hw) ?_
          refine J_ifb_eq (tgt := 39) dX9_rank_32 rfl (fun h32 => ?_) (fun h32 => ?_)
          · refine J_iconst (v := 0) dX9_rank_39 (by decide) ?_
            refine J_iadd dX9_rank_40 ?_
            refine J_istore_n (L' := [(3, _), (4, _), (0, _), (1, _), (2, _)]) dX9_rank_41 rfl (by decide) rfl ?_
            refine J_iinc (v := _ + 1) (L' := [(4, _), (3, _), (0, _), (1, _), (2, _)]) dX9_rank_42 rfl rfl (by decide) rfl ?_
            refine J_goto (tgt := 5) dX9_rank_45 rfl ?_
            refine xx_J.pick [0, 1, 2, 3, 4] rfl ?_
            exact ih _ _  (by rw [hx]; exact nI_1 i) (by rw [hacc, rkN_s]; first | (rw [if_pos h32]; exact nI_1 _) | (rw [if_neg h32]; simp) | (have ew : i = w := (by rw [hx, hx0, i_eq, i_n (by omega), i_n (by omega)] at h21; omega); subst ew; rw [if_neg (fun z => by have z2 : f_R (fS S P) nw i i = false := (ahd_sto _ _ _).2.2 _; exact Bool.false_ne_true (z2.symm.trans z))]; simp))
          · refine J_iconst (v := 1) dX9_rank_35 (by decide) ?_
            refine J_goto (tgt := 40) dX9_rank_36 rfl ?_
            refine J_iadd dX9_rank_40 ?_
            refine J_istore_n (L' := [(3, _), (4, _), (0, _), (1, _), (2, _)]) dX9_rank_41 rfl (by decide) rfl ?_
            refine J_iinc (v := _ + 1) (L' := [(4, _), (3, _), (0, _), (1, _), (2, _)]) dX9_rank_42 rfl rfl (by decide) rfl ?_
            refine J_goto (tgt := 5) dX9_rank_45 rfl ?_
            refine xx_J.pick [0, 1, 2, 3, 4] rfl ?_
            exact ih _ _  (by rw [hx]; exact nI_1 i) (by rw [hacc, rkN_s]; first | (rw [if_pos h32]; exact nI_1 _) | (rw [if_neg h32]; simp) | (have ew : i = w := (by rw [hx, hx0, i_eq, i_n (by omega), i_n (by omega)] at h21; omega); subst ew; rw [if_neg (fun z => by have z2 : f_R (fS S P) nw i i = false := (ahd_sto _ _ _).2.2 _; exact Bool.false_ne_true (z2.symm.trans z))]; simp))
  refine xx_J.pick [0, 1, 2, 3, 4] rfl ?_
  exact loop 0 (by omega) _ _  rfl rfl
/-- ls: all below nw, in the order R -/
def srt (R : Nat → Nat → Bool) (nw : Nat) (ls : List Nat) : Prop := ls.Perm (List.range nw) ∧ ls.Pairwise (fun a b => R a b = true)
theorem srt.ord {R : Nat → Nat → Bool} {nw : Nat} {ls : List Nat} (h : srt R nw ls) : ordOf R nw (fun p => nI (ls.getD p 0)) ls := ⟨h.1, h.2, fun _ _ => rfl⟩
theorem srt.len {R : Nat → Nat → Bool} {nw : Nat} {ls : List Nat} (h : srt R nw ls) : ls.length = nw := h.ord.len
theorem srt.lt {R : Nat → Nat → Bool} {nw : Nat} {ls : List Nat} (h : srt R nw ls) {p : Nat} (hp : p < nw) : ls.getD p 0 < nw := h.ord.lt hp
theorem srt.rank {R : Nat → Nat → Bool} (hR : sto R) {nw : Nat} {ls : List Nat} (h : srt R nw ls) {p : Nat} (hp : p < nw) : rkN R nw (ls.getD p 0) = p := h.ord.rank hR hp
theorem srt.ex {R : Nat → Nat → Bool} {nw : Nat} {ls : List Nat} (h : srt R nw ls) {w : Nat} (hw : w < nw) : ∃ p, p < nw ∧ ls.getD p 0 = w := by
  have hm : w ∈ ls := h.1.mem_iff.mpr (List.mem_range.mpr hw)
  obtain ⟨p, hp, e⟩ := List.mem_iff_getElem.mp hm
  exact ⟨p, by rw [← h.len]; exact hp, by rw [getD_at hp]; exact e⟩
theorem srt.ne {R : Nat → Nat → Bool} (hR : sto R) {nw : Nat} {ls : List Nat} (h : srt R nw ls) {r w : Nat} (hr : r < nw) (hw : w < nw) (hne : ¬ w = ls.getD r 0) : ¬ rkN R nw w = r := by
  obtain ⟨p, hp, e⟩ := h.ex hw
  intro z
  rw [← e, h.rank hR hp] at z
  subst z
  exact hne e.symm
theorem c_X9_at (hst : l.stackTraces = false) (hM : xx_w bm (layM bp vL bn ba bm M) A) (hN : xx_w bp (layN nl bp P) A) (hS : xx_w bs (layS bs S) A) {nw : Nat} (hn : P.1 0 = nI nw) (h12 : nw ≤ 12) (hbd : bdP (fS S P) nw) {ls : List Nat} (hls : srt (f_R (fS S P) nw) nw ls) {r : Nat} {y : Int32} (hy : y = nI r) (hr : r < nw) : xx_C G l yX9_at mX9_at 4 94 0 0 [.ref bm, .ref bs, .int y] A n (xx_ro (some (.int (nI (ls.getD r 0)))) A n) := by
  refine J_C hst (by decide +kernel) rfl rfl rfl (Nat.le_of_ble_eq_true rfl) ?_
  show xx_J _ _ _ _ _ _ _ _ 0 [(0, _), (1, _), (2, _)] [] _ _ _ _
  refine J_iconst (v := 0) dX9_at_0 (by decide) ?_
  refine J_istore_n (L' := [(3, _), (0, _), (1, _), (2, _)]) dX9_at_1 rfl (by decide) rfl ?_
  have loop : ∀ i, i ≤ (ls.getD r 0) → ∀ (x : Int32) , (x = nI i) → xx_J G l mX9_at 4 94 0 0 (xx_ro (some (.int (nI (ls.getD r 0)))) A n) 2 [(3, .int x), (0, .ref bm), (1, .ref bs), (2, .int y)] [] A n 0 0 := by
    refine xx_dn ?_ ?_
    · intro x   hx
      have hw0 := hls.lt hr
      have e9 : (nI (rkN (f_R (fS S P) nw) nw (ls.getD r 0))).toInt = (rkN (f_R (fS S P) nw) nw (ls.getD r 0) : Nat) := i_n (by have := rkN_le (R := (f_R (fS S P) nw)) (nw := nw) (w := (ls.getD r 0)); omega)
      have er : y.toInt = r := by rw [hy]; exact i_n (by omega)
      have e8 : rkN (f_R (fS S P) nw) nw (ls.getD r 0) = r := hls.rank (ahd_sto _ _ _) hr
      have hxw : (ls.getD r 0) < nw := hw0
      refine J_aload_n dX9_at_2 rfl rfl ?_
      refine J_aload_n dX9_at_3 rfl rfl ?_
      refine J_iload_n dX9_at_4 rfl rfl ?_
      refine J_callVr (As := [_, _]) dX9_at_5 ml_X9_90 cal_X9_rank im_X9_rank se_X9_rank (hM.at 0 rfl) rfl rfl rfl (Nat.le_of_ble_eq_true rfl) ⟨by decide, by decide⟩ ⟨by decide, by decide⟩ (c_X9_rank hst hM hN hS hn h12 hbd hx hxw) ?_
      refine J_iload_n dX9_at_8 rfl rfl ?_
      refine J_icmp_eq (tgt := 18) dX9_at_9 rfl (fun h9 => ?_) (fun h9 => ?_)
      · refine J_iload_n dX9_at_18 rfl rfl ?_
        refine J_ireturn dX9_at_19 rfl rfl (by decide) (by decide) ?_
        exact ⟨by rw [hx], rfl, rfl⟩
      · first | (exfalso; simp only [i_lt, i_le, i_eq, i_0, i_1, i_2, i_3, i_4, i_5, i_6, i_8, i_9, i_10, i_12, i_16, i_20, i_m1, i_400, i_2000] at h9; omega) | (exfalso; simp only [s_up, a_up, va_up, i_lt, i_le, i_eq, i_0, i_1, i_2, i_3, i_4, i_5, i_6, i_8, i_9, i_10, i_12, i_16, i_20, i_m1, i_400, i_2000, ↓reduceIte, Nat.reduceEqDiff] at h9; omega)
    · intro i hii ih x   hx
      have hw0 := hls.lt hr
      have e9 : (nI (rkN (f_R (fS S P) nw) nw i)).toInt = (rkN (f_R (fS S P) nw) nw i : Nat) := i_n (by have := rkN_le (R := (f_R (fS S P) nw)) (nw := nw) (w := i); omega)
      have er : y.toInt = r := by rw [hy]; exact i_n (by omega)
      have hxw : i < nw := by omega
      have e8 : ¬ rkN (f_R (fS S P) nw) nw i = r := hls.ne (ahd_sto _ _ _) hr hxw (by omega)
      refine J_aload_n dX9_at_2 rfl rfl ?_
      refine J_aload_n dX9_at_3 rfl rfl ?_
      refine J_iload_n dX9_at_4 rfl rfl ?_
      refine J_callVr (As := [_, _]) dX9_at_5 ml_X9_90 cal_X9_rank im_X9_rank se_X9_rank (hM.at 0 rfl) rfl rfl rfl (Nat.le_of_ble_eq_true rfl) ⟨by decide, by decide⟩ ⟨by decide, by decide⟩ (c_X9_rank hst hM hN hS hn h12 hbd hx hxw) ?_
      refine J_iload_n dX9_at_8 rfl rfl ?_
      refine J_icmp_eq (tgt := 18) dX9_at_9 rfl (fun h9 => ?_) (fun h9 => ?_)
      · first | (exfalso; simp only [i_lt, i_le, i_eq, i_0, i_1, i_2, i_3, i_4, i_5, i_6, i_8, i_9, i_10, i_12, i_16, i_20, i_m1, i_400, i_2000] at h9; omega) | (exfalso; simp only [s_up, a_up, va_up, i_lt, i_le, i_eq, i_0, i_1, i_2, i_3, i_4, i_5, i_6, i_8, i_9, i_10, i_12, i_16, i_20, i_m1, i_400, i_2000, ↓reduceIte, Nat.reduceEqDiff] at h9; omega)
      · refine J_iinc (v := _ + 1) (L' := [(3, _), (0, _), (1, _), (2, _)]) dX9_at_12 rfl rfl (by decide) rfl ?_
        refine J_goto (tgt := 2) dX9_at_15 rfl ?_
        refine xx_J.pick [0, 1, 2, 3] rfl ?_
        exact ih _  (by rw [hx]; exact nI_1 i)
  refine xx_J.pick [0, 1, 2, 3] rfl ?_
  exact loop 0 (by omega) _  rfl
theorem c_X9_in (hst : l.stackTraces = false) (hM : xx_w bm (layM bp vL bn ba bm M) A) (hN : xx_w bp (layN nl bp P) A) (hS : xx_w bs (layS bs S) A) {nw : Nat} (hn : P.1 0 = nI nw) (h12 : nw ≤ 12)  : xx_C G l yX9_in mX9_in 0 0 0 0 [.ref bm, .ref bs] A n (xx_ro (some (.int (bx_sum (fun w => (fS S P).2 2 (8 * 12 + w)) nw))) A n) := by
  refine J_C hst (by decide +kernel) rfl rfl rfl (Nat.le_of_ble_eq_true rfl) ?_
  show xx_J _ _ _ _ _ _ _ _ 0 [(0, _), (1, _)] [] _ _ _ _
  refine J_iconst (v := 0) dX9_in_0 (by decide) ?_
  refine J_istore_n (L' := [(2, _), (0, _), (1, _)]) dX9_in_1 rfl (by decide) rfl ?_
  refine J_iconst (v := 0) dX9_in_2 (by decide) ?_
  refine J_istore_n (L' := [(3, _), (2, _), (0, _), (1, _)]) dX9_in_3 rfl (by decide) rfl ?_
  have loop : ∀ i, i ≤ nw → ∀ (x acc : Int32) , (x = nI i) → (acc = bx_sum (fun w => (fS S P).2 2 (8 * 12 + w)) i) → xx_J G l mX9_in 0 0 0 0 (xx_ro (some (.int (bx_sum (fun w => (fS S P).2 2 (8 * 12 + w)) nw))) A n) 4 [(3, .int x), (2, .int acc), (0, .ref bm), (1, .ref bs)] [] A n 0 0 := by
    refine xx_dn ?_ ?_
    · intro x acc   hx hacc
      have ep : (P.1 0).toInt = nw := by rw [hn]; exact i_n (by omega)
      have ex : x.toInt = nw := by rw [hx]; exact i_n (by omega)
      refine J_iload_n dX9_in_4 rfl rfl ?_
      refine J_aload_n dX9_in_5 rfl rfl ?_
      refine J_getf dX9_in_6 fl_X9_20 (hM.at 0 rfl) rfl ?_
      refine J_getf dX9_in_9 fl_X9_65 (hN.at 0 rfl) rfl ?_
      refine J_icmp_ge (tgt := 38) dX9_in_12 rfl (fun h12 => ?_) (fun h12 => ?_)
      · refine J_iload_n dX9_in_38 rfl rfl ?_
        refine J_ireturn dX9_in_39 rfl rfl (by decide) (by decide) ?_
        exact ⟨by rw [hacc], rfl, rfl⟩
      · first | (exfalso; simp only [i_lt, i_le, i_eq, i_0, i_1, i_2, i_3, i_4, i_5, i_6, i_8, i_9, i_10, i_12, i_16, i_20, i_m1, i_400, i_2000] at h12; omega) | (exfalso; simp only [s_up, a_up, va_up, i_lt, i_le, i_eq, i_0, i_1, i_2, i_3, i_4, i_5, i_6, i_8, i_9, i_10, i_12, i_16, i_20, i_m1, i_400, i_2000, ↓reduceIte, Nat.reduceEqDiff] at h12; omega)
    · intro i hii ih x acc   hx hacc
      have ep : (P.1 0).toInt = nw := by rw [hn]; exact i_n (by omega)
      have ex : x.toInt = i := by rw [hx]; exact i_n (by omega)
      refine J_iload_n dX9_in_4 rfl rfl ?_
      refine J_aload_n dX9_in_5 rfl rfl ?_
      refine J_getf dX9_in_6 fl_X9_20 (hM.at 0 rfl) rfl ?_
      refine J_getf dX9_in_9 fl_X9_65 (hN.at 0 rfl) rfl ?_
      refine J_icmp_ge (tgt := 38) dX9_in_12 rfl (fun h12 => ?_) (fun h12 => ?_)
      · first | (exfalso; simp only [i_lt, i_le, i_eq, i_0, i_1, i_2, i_3, i_4, i_5, i_6, i_8, i_9, i_10, i_12, i_16, i_20, i_m1, i_400, i_2000] at h12; omega) | (exfalso; simp only [s_up, a_up, va_up, i_lt, i_le, i_eq, i_0, i_1, i_2, i_3, i_4, i_5, i_6, i_8, i_9, i_10, i_12, i_16, i_20, i_m1, i_400, i_2000, ↓reduceIte, Nat.reduceEqDiff] at h12; omega)
      · refine J_iload_n dX9_in_15 rfl rfl ?_
        refine J_aload_n dX9_in_16 rfl rfl ?_
        refine J_getf dX9_in_17 fl_X9_93 (hS.at 0 rfl) rfl ?_
        refine J_iload_n dX9_in_20 rfl rfl ?_
        refine J_zaldN i dX9_in_21 (hS.at 9 rfl) hx (by omega) (by decide) ?_
        refine J_if_eq (tgt := 29) dX9_in_22 rfl (fun h22 => ?_) (fun h22 => ?_)
        · refine J_iconst (v := 1) dX9_in_29 (by decide) ?_
          refine J_iadd dX9_in_30 ?_
          refine J_istore_n (L' := [(2, _), (3, _), (0, _), (1, _)]) dX9_in_31 rfl (by decide) rfl ?_
          refine J_iinc (v := _ + 1) (L' := [(3, _), (2, _), (0, _), (1, _)]) dX9_in_32 rfl rfl (by decide) rfl ?_
          refine J_goto (tgt := 4) dX9_in_35 rfl ?_
          refine xx_J.pick [0, 1, 2, 3] rfl ?_
          exact ih _ _  (by rw [hx]; exact nI_1 i) (by rw [hacc]; show _ = _ + (fS S P).2 2 (8 * 12 + i); rw [fS_c (by omega)]; show _ = _ + (if S.2 9 i = 0 then 1 else 0); first | rw [if_pos h22] | rw [if_neg h22])
        · refine J_iconst (v := 0) dX9_in_25 (by decide) ?_
          refine J_goto (tgt := 30) dX9_in_26 rfl ?_
          refine J_iadd dX9_in_30 ?_
          refine J_istore_n (L' := [(2, _), (3, _), (0, _), (1, _)]) dX9_in_31 rfl (by decide) rfl ?_
          refine J_iinc (v := _ + 1) (L' := [(3, _), (2, _), (0, _), (1, _)]) dX9_in_32 rfl rfl (by decide) rfl ?_
          refine J_goto (tgt := 4) dX9_in_35 rfl ?_
          refine xx_J.pick [0, 1, 2, 3] rfl ?_
          exact ih _ _  (by rw [hx]; exact nI_1 i) (by rw [hacc]; show _ = _ + (fS S P).2 2 (8 * 12 + i); rw [fS_c (by omega)]; show _ = _ + (if S.2 9 i = 0 then 1 else 0); first | rw [if_pos h22] | rw [if_neg h22])
  refine xx_J.pick [0, 1, 2, 3] rfl ?_
  exact loop 0 (by omega) _ _  rfl rfl
theorem c_X9_canPair (hst : l.stackTraces = false) (hM : xx_w bm (layM bp vL bn ba bm M) A) (hN : xx_w bp (layN nl bp P) A) (hS : xx_w bs (layS bs S) A) {nw : Nat} (hn : P.1 0 = nI nw) (h12 : nw ≤ 12) {nb : Nat} (hb : S.1 1 = nI nb) (h6 : nb ≤ 6) : xx_C G l yX9_canPair mX9_canPair 1 23 0 0 [.ref bm, .ref bs] A n (xx_ro (some (.int (xx_b (bx_sum (opn ((fS S P).2 6)) nb = 0 ∧ (fS S P).1 1 < 20 ∧ ¬ bx_sum (fun w => (fS S P).2 2 (8 * 12 + w)) nw < 2)))) A n) := by
  refine J_C hst (by decide +kernel) rfl rfl rfl (Nat.le_of_ble_eq_true rfl) ?_
  show xx_J _ _ _ _ _ _ _ _ 0 [(0, _), (1, _)] [] _ _ _ _
  refine J_aload_n dX9_canPair_0 rfl rfl ?_
  refine J_callVr (As := []) dX9_canPair_1 ml_X9_97 cal_X8_open im_X8_open se_X8_open (hS.at 0 rfl) rfl rfl rfl (Nat.le_of_ble_eq_true rfl) ⟨by decide, by decide⟩ ⟨by decide, by decide⟩ (c_X8_open hst hS hb h6) ?_
  refine J_if_ne (tgt := 29) dX9_canPair_4 rfl (fun h4 => ?_) (fun h4 => ?_)
  · refine J_iconst (v := 0) dX9_canPair_29 (by decide) ?_
    refine J_ireturn dX9_canPair_30 rfl rfl (by decide) (by decide) ?_
    refine ⟨congrArg (fun v => Sum.inl (some (Value.int v))) ?_, rfl, rfl⟩
    have g1 : (fS S P).2 6 = S.2 13 := rfl
    have g2 : (fS S P).1 1 = S.1 0 := rfl
    rw [g1, g2]
    unfold xx_b
    split <;> first | rfl | (exfalso; simp only [i_lt, i_le, i_eq, i_0, i_1, i_2, i_3, i_4, i_5, i_6, i_8, i_9, i_10, i_12, i_16, i_20, i_m1] at *; omega)
  · refine J_aload_n dX9_canPair_7 rfl rfl ?_
    refine J_getf dX9_canPair_8 fl_X9_101 (hS.at 0 rfl) rfl ?_
    refine J_bipush (v := 20) dX9_canPair_11 (by decide) ?_
    refine J_icmp_ge (tgt := 29) dX9_canPair_13 rfl (fun h13 => ?_) (fun h13 => ?_)
    · refine J_iconst (v := 0) dX9_canPair_29 (by decide) ?_
      refine J_ireturn dX9_canPair_30 rfl rfl (by decide) (by decide) ?_
      refine ⟨congrArg (fun v => Sum.inl (some (Value.int v))) ?_, rfl, rfl⟩
      have g1 : (fS S P).2 6 = S.2 13 := rfl
      have g2 : (fS S P).1 1 = S.1 0 := rfl
      rw [g1, g2]
      unfold xx_b
      split <;> first | rfl | (exfalso; simp only [i_lt, i_le, i_eq, i_0, i_1, i_2, i_3, i_4, i_5, i_6, i_8, i_9, i_10, i_12, i_16, i_20, i_m1] at *; omega)
    · refine J_aload_n dX9_canPair_16 rfl rfl ?_
      refine J_aload_n dX9_canPair_17 rfl rfl ?_
      refine J_callVr (As := [_]) dX9_canPair_18 ml_X9_104 cal_X9_in im_X9_in se_X9_in (hM.at 0 rfl) rfl rfl rfl (Nat.le_of_ble_eq_true rfl) ⟨by decide, by decide⟩ ⟨by decide, by decide⟩ (c_X9_in hst hM hN hS hn h12) ?_
      refine J_iconst (v := 1) dX9_canPair_21 (by decide) ?_
      refine J_icmp_le (tgt := 29) dX9_canPair_22 rfl (fun h22 => ?_) (fun h22 => ?_)
      · refine J_iconst (v := 0) dX9_canPair_29 (by decide) ?_
        refine J_ireturn dX9_canPair_30 rfl rfl (by decide) (by decide) ?_
        refine ⟨congrArg (fun v => Sum.inl (some (Value.int v))) ?_, rfl, rfl⟩
        have g1 : (fS S P).2 6 = S.2 13 := rfl
        have g2 : (fS S P).1 1 = S.1 0 := rfl
        rw [g1, g2]
        unfold xx_b
        split <;> first | rfl | (exfalso; simp only [i_lt, i_le, i_eq, i_0, i_1, i_2, i_3, i_4, i_5, i_6, i_8, i_9, i_10, i_12, i_16, i_20, i_m1] at *; omega)
      · refine J_iconst (v := 1) dX9_canPair_25 (by decide) ?_
        refine J_goto (tgt := 30) dX9_canPair_26 rfl ?_
        refine J_ireturn dX9_canPair_30 rfl rfl (by decide) (by decide) ?_
        refine ⟨congrArg (fun v => Sum.inl (some (Value.int v))) ?_, rfl, rfl⟩
        have g1 : (fS S P).2 6 = S.2 13 := rfl
        have g2 : (fS S P).1 1 = S.1 0 := rfl
        rw [g1, g2]
        unfold xx_b
        split <;> first | rfl | (exfalso; simp only [i_lt, i_le, i_eq, i_0, i_1, i_2, i_3, i_4, i_5, i_6, i_8, i_9, i_10, i_12, i_16, i_20, i_m1] at *; omega)
end XS2
