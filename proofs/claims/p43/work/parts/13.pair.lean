/-! FIELD, the rest; PAIRING -/
section XPA
def layP (b : Nat) (F : xS) : List (Nat × va_E) := [(0, .inr (1, [.int (F.1 0), .int (F.1 1), .int (F.1 2), .ref (b + 1), .ref (b + 2), .int (F.1 5), .ref (b + 3), .ref (b + 4), .ref (b + 5)])), (1, .inl (0, 6, .inl (F.2 1))), (2, .inl (0, 6, .inl (F.2 2))), (3, .inl (0, 12, .inl (F.2 3))), (4, .inl (0, 12, .inl (F.2 4))), (5, .inl (0, 4096, .inl (F.2 5)))]
theorem wP_s0_0 {b : Nat} {F : xS} {A : xx_H} (h : xx_w b (layP b F) A) (x : Int32) : xx_w b (layP b (s_up F 0 x)) (xx_up A (b + 0) (.inr (1, [Value.int (F.1 0), .int (F.1 1), .int (F.1 2), .ref (b + 1), .ref (b + 2), .int (F.1 5), .ref (b + 3), .ref (b + 4), .ref (b + 5)].set 0 (.int x)))) := h.put 0 _ rfl rfl
theorem wP_s0_1 {b : Nat} {F : xS} {A : xx_H} (h : xx_w b (layP b F) A) (x : Int32) : xx_w b (layP b (s_up F 1 x)) (xx_up A (b + 0) (.inr (1, [Value.int (F.1 0), .int (F.1 1), .int (F.1 2), .ref (b + 1), .ref (b + 2), .int (F.1 5), .ref (b + 3), .ref (b + 4), .ref (b + 5)].set 1 (.int x)))) := h.put 0 _ rfl rfl
theorem wP_s0_2 {b : Nat} {F : xS} {A : xx_H} (h : xx_w b (layP b F) A) (x : Int32) : xx_w b (layP b (s_up F 2 x)) (xx_up A (b + 0) (.inr (1, [Value.int (F.1 0), .int (F.1 1), .int (F.1 2), .ref (b + 1), .ref (b + 2), .int (F.1 5), .ref (b + 3), .ref (b + 4), .ref (b + 5)].set 2 (.int x)))) := h.put 0 _ rfl rfl
theorem wP_s0_5 {b : Nat} {F : xS} {A : xx_H} (h : xx_w b (layP b F) A) (x : Int32) : xx_w b (layP b (s_up F 5 x)) (xx_up A (b + 0) (.inr (1, [Value.int (F.1 0), .int (F.1 1), .int (F.1 2), .ref (b + 1), .ref (b + 2), .int (F.1 5), .ref (b + 3), .ref (b + 4), .ref (b + 5)].set 5 (.int x)))) := h.put 0 _ rfl rfl
theorem wP_a1 {b : Nat} {F : xS} {A : xx_H} (h : xx_w b (layP b F) A) (f : Nat → Int32) : xx_w b (layP b (a_up F 1 f)) (xx_up A (b + 1) (.inl (0, 6, .inl f))) := h.put 1 _ rfl rfl
theorem wP_a2 {b : Nat} {F : xS} {A : xx_H} (h : xx_w b (layP b F) A) (f : Nat → Int32) : xx_w b (layP b (a_up F 2 f)) (xx_up A (b + 2) (.inl (0, 6, .inl f))) := h.put 2 _ rfl rfl
theorem wP_a3 {b : Nat} {F : xS} {A : xx_H} (h : xx_w b (layP b F) A) (f : Nat → Int32) : xx_w b (layP b (a_up F 3 f)) (xx_up A (b + 3) (.inl (0, 12, .inl f))) := h.put 3 _ rfl rfl
theorem wP_a4 {b : Nat} {F : xS} {A : xx_H} (h : xx_w b (layP b F) A) (f : Nat → Int32) : xx_w b (layP b (a_up F 4 f)) (xx_up A (b + 4) (.inl (0, 12, .inl f))) := h.put 4 _ rfl rfl
theorem wP_a5 {b : Nat} {F : xS} {A : xx_H} (h : xx_w b (layP b F) A) (f : Nat → Int32) : xx_w b (layP b (a_up F 5 f)) (xx_up A (b + 5) (.inl (0, 4096, .inl f))) := h.put 5 _ rfl rfl
theorem xx_w.o2 {b q m : Nat} {cs : List (Nat × va_E)} {A A' : xx_H} (h : xx_w b cs A) (o : ∀ z, z ≠ q → A' z = A z) (hb : (cs.map Prod.fst).all (fun z => decide (z < m)) = true) (hd : q < b ∨ b + m ≤ q) : xx_w b cs A' := fun i z e he => by
  have hz := List.all_eq_true.mp hb z (List.mem_map.mpr ⟨_, List.mem_of_getElem? he, rfl⟩)
  have hz := of_decide_eq_true hz
  rw [o _ (by omega)]
  exact h i z e he
theorem xx_w.s2 {b b0 e0 m : Nat} {cs : List (Nat × va_E)} {A A' : xx_H} (h : xx_w b cs A) (hs : xx_same b0 e0 A A') (hb : (cs.map Prod.fst).all (fun z => decide (z < m)) = true) (hd : b + m ≤ b0 ∨ e0 ≤ b) : xx_w b cs A' := h.same hs fun z hz => by
  have hz := of_decide_eq_true (List.all_eq_true.mp hb z hz)
  omega
variable {G : xx_G} {l : Launch} {b n : Nat} {A : xx_H} {F : xS}
/-- a bout begins: q, i ahead, j behind -/
def sx_r (F : xS) (i j : Nat) : Nat := if redB F i j = true then i else j
def sx_b (F : xS) (i j : Nat) : Nat := if redB F i j = true then j else i
abbrev sx_1 (F : xS) (q r u i j : Nat) : xS := a_up (a_up (a_up (a_up F 4 (upd (F.2 4) q (nI r))) 5 (upd (F.2 5) q (nI u))) 6 (upd (F.2 6) q (-1))) 3 (m_up (F.2 3) i j)
def sx_2 (F : xS) (r u : Nat) : xS := f_set (f_add (f_set (f_add F 6 r 1) 9 r 0) 6 u (-1)) 9 u 1
def startBoutF (F : xS) (q i j : Nat) : xS := sx_2 (if f_at F 1 j < f_at F 1 i then f_add (sx_1 F q (sx_r F i j) (sx_b F i j) i j) 7 i 1 else sx_1 F q (sx_r F i j) (sx_b F i j) i j) (sx_r F i j) (sx_b F i j)
set_option maxHeartbeats 4000000 in
theorem c_X0_startBout (hst : l.stackTraces = false) (hF : xx_w b (layF b F) A) {nw : Nat} (hn : F.1 0 = nI nw) (h12 : nw ≤ 12) {nb : Nat} (hb : F.1 5 = nI nb) (h6 : nb ≤ 6) {q : Nat} {x0 : Int32} (hx0 : x0 = nI q) (hq : q < nb) {i j : Nat} {x y : Int32} (hx : x = nI i) (hi : i < nw) (hy : y = nI j) (hj : j < nw) : xx_C G l yX0_startBout mX0_startBout 3 68 0 0 [.ref b, .int x0, .int x, .int y] A n (xx_wr none n (fun A' => xx_w b (layF b (startBoutF F q i j)) A' ∧ xx_same b (b + 9) A A')) := by
  subst hx0 hx hy
  refine J_C hst (by decide +kernel) rfl rfl rfl (Nat.le_of_ble_eq_true rfl) ?_
  show xx_J _ _ _ _ _ _ _ _ 0 [(0, _), (1, _), (2, _), (3, _)] [] _ _ _ _
  refine J_aload_n dX0_startBout_0 rfl rfl ?_
  refine J_iload_n dX0_startBout_1 rfl rfl ?_
  refine J_callVr (As := [_]) dX0_startBout_2 ml_X0_82 cal_X0_hasBout im_X0_hasBout se_X0_hasBout (hF.at 0 rfl) rfl rfl rfl (Nat.le_of_ble_eq_true rfl) ⟨by decide, by decide⟩ ⟨by decide, by decide⟩ (c_X0_hasBout hst hF _) ?_
  refine J_ifb_ne (tgt := 9) dX0_startBout_5 rfl (fun h5 => ?_) (fun h5 => ?_)
  · refine J_aload_n dX0_startBout_9 rfl rfl ?_
    refine J_iload_n dX0_startBout_10 rfl rfl ?_
    refine J_iload_n dX0_startBout_11 rfl rfl ?_
    refine J_callVr (As := [_, _]) dX0_startBout_12 ml_X0_129 cal_X0_takesRedAhead im_X0_takesRedAhead se_X0_takesRedAhead (hF.at 0 rfl) rfl rfl rfl (Nat.le_of_ble_eq_true rfl) ⟨by decide, by decide⟩ ⟨by decide, by decide⟩ (c_X0_takesRedAhead hst hF hn h12 rfl hi rfl hj) ?_
    refine J_istore (L' := [(4, _), (0, _), (1, _), (2, _), (3, _)]) dX0_startBout_15 (by decide) rfl ?_
    obtain ⟨r, er⟩ : ∃ r, r = sx_r F i j := ⟨_, rfl⟩
    obtain ⟨u, eu⟩ : ∃ u, u = sx_b F i j := ⟨_, rfl⟩
    have hr : r < nw := by rw [er]; unfold sx_r; split <;> assumption
    have hu : u < nw := by rw [eu]; unfold sx_b; split <;> assumption
    have rest : ∀ (A1 : xx_H), (xx_w b (layF b (a_up (a_up F 4 (upd (F.2 4) q (nI r))) 5 (upd (F.2 5) q (nI u)))) A1) → (xx_same b (b + 9) A A1) → xx_J G l mX0_startBout 3 68 0 0 (xx_wr none n (fun A' => xx_w b (layF b (startBoutF F q i j)) A' ∧ xx_same b (b + 9) A A')) 49 [(3, .int (nI j)), (2, .int (nI i)), (1, .int (nI q)), (0, .ref b)] [] A1 n 0 0 := by
      intro A1 hF1 hs1
      refine J_aload_n dX0_startBout_49 rfl rfl ?_
      refine J_getf dX0_startBout_50 fl_X0_37 (hF1.at 0 rfl) rfl ?_
      refine J_iload_n dX0_startBout_53 rfl rfl ?_
      refine J_iconst (v := -1) dX0_startBout_54 (by decide) ?_
      refine J_iastN q dX0_startBout_55 (hF1.at 6 rfl) rfl (by omega) (by decide) ?_
      refine J_gen (wF_a6 hF1 _) (hs1.put (by omega) (by omega) _) (fun A201 w201 s201 o201 => ?_)
      refine J_aload_n dX0_startBout_56 rfl rfl ?_
      refine J_iload_n dX0_startBout_57 rfl rfl ?_
      refine J_iload_n dX0_startBout_58 rfl rfl ?_
      refine J_callVw (As := [_, _]) dX0_startBout_59 ml_X0_132 cal_X0_addMeeting im_X0_addMeeting se_X0_addMeeting (w201.at 0 rfl) rfl rfl rfl (Nat.le_of_ble_eq_true rfl) ⟨by decide, by decide⟩ ⟨by decide, by decide⟩ (c_X0_addMeeting hst w201 hn h12 rfl hi rfl hj) (fun A202 hQ202 => ?_)
      skip
      refine J_aload_n dX0_startBout_62 rfl rfl ?_
      refine J_iconst (v := 1) dX0_startBout_63 (by decide) ?_
      refine J_iload_n dX0_startBout_64 rfl rfl ?_
      refine J_callVr (As := [_, _]) dX0_startBout_65 ml_X0_75 cal_X0_of im_X0_of se_X0_of (hQ202.1.at 0 rfl) rfl rfl rfl (Nat.le_of_ble_eq_true rfl) ⟨by decide, by decide⟩ ⟨by decide, by decide⟩ (c_X0_of (q := 1) hst hQ202.1 hn h12 rfl (by decide) rfl hi) ?_
      refine J_aload_n dX0_startBout_68 rfl rfl ?_
      refine J_iconst (v := 1) dX0_startBout_69 (by decide) ?_
      refine J_iload_n dX0_startBout_70 rfl rfl ?_
      refine J_callVr (As := [_, _]) dX0_startBout_71 ml_X0_75 cal_X0_of im_X0_of se_X0_of (hQ202.1.at 0 rfl) rfl rfl rfl (Nat.le_of_ble_eq_true rfl) ⟨by decide, by decide⟩ ⟨by decide, by decide⟩ (c_X0_of (q := 1) hst hQ202.1 hn h12 rfl (by decide) rfl hj) ?_
      refine J_icmp_le (tgt := 85) dX0_startBout_74 rfl (fun h74 => ?_) (fun h74 => ?_)
      · have hgt : ¬ f_at F 1 j < f_at F 1 i := fun z => absurd h74 (Int32.not_le.mpr z)
        refine J_aload_n dX0_startBout_85 rfl rfl ?_
        refine J_bipush (v := 6) dX0_startBout_86 (by decide) ?_
        refine J_aload_n dX0_startBout_88 rfl rfl ?_
        refine J_getf dX0_startBout_89 fl_X0_31 (hQ202.1.at 0 rfl) rfl ?_
        refine J_iload_n dX0_startBout_92 rfl rfl ?_
        refine J_ialdN _ dX0_startBout_93 (hQ202.1.at 4 rfl) rfl (by omega) (by decide) ?_
        refine J_iconst (v := 1) dX0_startBout_94 (by decide) ?_
        refine J_callVw (As := [_, _, _]) dX0_startBout_95 ml_X0_126 cal_X0_add im_X0_add se_X0_add (hQ202.1.at 0 rfl) rfl rfl rfl (Nat.le_of_ble_eq_true rfl) ⟨by decide, by decide⟩ ⟨by decide, by decide⟩ (c_X0_add (q := 6) (i := r) hst hQ202.1 hn h12 rfl (by decide) (by simp [sx_1, a_up, va_up, upd]) hr _) (fun A203 hQ203 => ?_)
        skip
        refine J_aload_n dX0_startBout_98 rfl rfl ?_
        refine J_bipush (v := 9) dX0_startBout_99 (by decide) ?_
        refine J_aload_n dX0_startBout_101 rfl rfl ?_
        refine J_getf dX0_startBout_102 fl_X0_31 (hQ203.1.at 0 rfl) rfl ?_
        refine J_iload_n dX0_startBout_105 rfl rfl ?_
        refine J_ialdN _ dX0_startBout_106 (hQ203.1.at 4 rfl) rfl (by omega) (by decide) ?_
        refine J_iconst (v := 0) dX0_startBout_107 (by decide) ?_
        refine J_callVw (As := [_, _, _]) dX0_startBout_108 ml_X0_61 cal_X0_set im_X0_set se_X0_set (hQ203.1.at 0 rfl) rfl rfl rfl (Nat.le_of_ble_eq_true rfl) ⟨by decide, by decide⟩ ⟨by decide, by decide⟩ (c_X0_set (q := 9) (i := r) hst hQ203.1 hn h12 rfl (by decide) (by simp [sx_1, a_up, va_up, upd]) hr _) (fun A204 hQ204 => ?_)
        skip
        refine J_aload_n dX0_startBout_111 rfl rfl ?_
        refine J_bipush (v := 6) dX0_startBout_112 (by decide) ?_
        refine J_aload_n dX0_startBout_114 rfl rfl ?_
        refine J_getf dX0_startBout_115 fl_X0_34 (hQ204.1.at 0 rfl) rfl ?_
        refine J_iload_n dX0_startBout_118 rfl rfl ?_
        refine J_ialdN _ dX0_startBout_119 (hQ204.1.at 5 rfl) rfl (by omega) (by decide) ?_
        refine J_iconst (v := -1) dX0_startBout_120 (by decide) ?_
        refine J_callVw (As := [_, _, _]) dX0_startBout_121 ml_X0_126 cal_X0_add im_X0_add se_X0_add (hQ204.1.at 0 rfl) rfl rfl rfl (Nat.le_of_ble_eq_true rfl) ⟨by decide, by decide⟩ ⟨by decide, by decide⟩ (c_X0_add (q := 6) (i := u) hst hQ204.1 hn h12 rfl (by decide) (by simp [sx_1, a_up, va_up, upd]) hu _) (fun A205 hQ205 => ?_)
        skip
        refine J_aload_n dX0_startBout_124 rfl rfl ?_
        refine J_bipush (v := 9) dX0_startBout_125 (by decide) ?_
        refine J_aload_n dX0_startBout_127 rfl rfl ?_
        refine J_getf dX0_startBout_128 fl_X0_34 (hQ205.1.at 0 rfl) rfl ?_
        refine J_iload_n dX0_startBout_131 rfl rfl ?_
        refine J_ialdN _ dX0_startBout_132 (hQ205.1.at 5 rfl) rfl (by omega) (by decide) ?_
        refine J_iconst (v := 1) dX0_startBout_133 (by decide) ?_
        refine J_callVw (As := [_, _, _]) dX0_startBout_134 ml_X0_61 cal_X0_set im_X0_set se_X0_set (hQ205.1.at 0 rfl) rfl rfl rfl (Nat.le_of_ble_eq_true rfl) ⟨by decide, by decide⟩ ⟨by decide, by decide⟩ (c_X0_set (q := 9) (i := u) hst hQ205.1 hn h12 rfl (by decide) (by simp [sx_1, a_up, va_up, upd]) hu _) (fun A206 hQ206 => ?_)
        skip
        refine J_return dX0_startBout_137 rfl (by decide) (by decide) ?_
        refine ⟨rfl, rfl, ?_, (((((s201.trans (hQ202.2.wide (by omega) (by omega))).trans (hQ203.2.wide (by omega) (by omega))).trans (hQ204.2.wide (by omega) (by omega))).trans (hQ205.2.wide (by omega) (by omega))).trans (hQ206.2.wide (by omega) (by omega)))⟩
        unfold startBoutF
        rw [← er, ← eu]
        first | (rw [if_pos hgt]; exact hQ206.1) | (rw [if_neg hgt]; exact hQ206.1)
      · have hgt : f_at F 1 j < f_at F 1 i := Int32.not_le.mp h74
        refine J_aload_n dX0_startBout_77 rfl rfl ?_
        refine J_bipush (v := 7) dX0_startBout_78 (by decide) ?_
        refine J_iload_n dX0_startBout_80 rfl rfl ?_
        refine J_iconst (v := 1) dX0_startBout_81 (by decide) ?_
        refine J_callVw (As := [_, _, _]) dX0_startBout_82 ml_X0_126 cal_X0_add im_X0_add se_X0_add (hQ202.1.at 0 rfl) rfl rfl rfl (Nat.le_of_ble_eq_true rfl) ⟨by decide, by decide⟩ ⟨by decide, by decide⟩ (c_X0_add (q := 7) hst hQ202.1 hn h12 rfl (by decide) rfl hi _) (fun A207 hQ207 => ?_)
        skip
        refine J_aload_n dX0_startBout_85 rfl rfl ?_
        refine J_bipush (v := 6) dX0_startBout_86 (by decide) ?_
        refine J_aload_n dX0_startBout_88 rfl rfl ?_
        refine J_getf dX0_startBout_89 fl_X0_31 (hQ207.1.at 0 rfl) rfl ?_
        refine J_iload_n dX0_startBout_92 rfl rfl ?_
        refine J_ialdN _ dX0_startBout_93 (hQ207.1.at 4 rfl) rfl (by omega) (by decide) ?_
        refine J_iconst (v := 1) dX0_startBout_94 (by decide) ?_
        refine J_callVw (As := [_, _, _]) dX0_startBout_95 ml_X0_126 cal_X0_add im_X0_add se_X0_add (hQ207.1.at 0 rfl) rfl rfl rfl (Nat.le_of_ble_eq_true rfl) ⟨by decide, by decide⟩ ⟨by decide, by decide⟩ (c_X0_add (q := 6) (i := r) hst hQ207.1 hn h12 rfl (by decide) (by simp [sx_1, a_up, va_up, upd]) hr _) (fun A208 hQ208 => ?_)
        skip
        refine J_aload_n dX0_startBout_98 rfl rfl ?_
        refine J_bipush (v := 9) dX0_startBout_99 (by decide) ?_
        refine J_aload_n dX0_startBout_101 rfl rfl ?_
        refine J_getf dX0_startBout_102 fl_X0_31 (hQ208.1.at 0 rfl) rfl ?_
        refine J_iload_n dX0_startBout_105 rfl rfl ?_
        refine J_ialdN _ dX0_startBout_106 (hQ208.1.at 4 rfl) rfl (by omega) (by decide) ?_
        refine J_iconst (v := 0) dX0_startBout_107 (by decide) ?_
        refine J_callVw (As := [_, _, _]) dX0_startBout_108 ml_X0_61 cal_X0_set im_X0_set se_X0_set (hQ208.1.at 0 rfl) rfl rfl rfl (Nat.le_of_ble_eq_true rfl) ⟨by decide, by decide⟩ ⟨by decide, by decide⟩ (c_X0_set (q := 9) (i := r) hst hQ208.1 hn h12 rfl (by decide) (by simp [sx_1, a_up, va_up, upd]) hr _) (fun A209 hQ209 => ?_)
        skip
        refine J_aload_n dX0_startBout_111 rfl rfl ?_
        refine J_bipush (v := 6) dX0_startBout_112 (by decide) ?_
        refine J_aload_n dX0_startBout_114 rfl rfl ?_
        refine J_getf dX0_startBout_115 fl_X0_34 (hQ209.1.at 0 rfl) rfl ?_
        refine J_iload_n dX0_startBout_118 rfl rfl ?_
        refine J_ialdN _ dX0_startBout_119 (hQ209.1.at 5 rfl) rfl (by omega) (by decide) ?_
        refine J_iconst (v := -1) dX0_startBout_120 (by decide) ?_
        refine J_callVw (As := [_, _, _]) dX0_startBout_121 ml_X0_126 cal_X0_add im_X0_add se_X0_add (hQ209.1.at 0 rfl) rfl rfl rfl (Nat.le_of_ble_eq_true rfl) ⟨by decide, by decide⟩ ⟨by decide, by decide⟩ (c_X0_add (q := 6) (i := u) hst hQ209.1 hn h12 rfl (by decide) (by simp [sx_1, a_up, va_up, upd]) hu _) (fun A210 hQ210 => ?_)
        skip
        refine J_aload_n dX0_startBout_124 rfl rfl ?_
        refine J_bipush (v := 9) dX0_startBout_125 (by decide) ?_
        refine J_aload_n dX0_startBout_127 rfl rfl ?_
        refine J_getf dX0_startBout_128 fl_X0_34 (hQ210.1.at 0 rfl) rfl ?_
        refine J_iload_n dX0_startBout_131 rfl rfl ?_
        refine J_ialdN _ dX0_startBout_132 (hQ210.1.at 5 rfl) rfl (by omega) (by decide) ?_
        refine J_iconst (v := 1) dX0_startBout_133 (by decide) ?_
        refine J_callVw (As := [_, _, _]) dX0_startBout_134 ml_X0_61 cal_X0_set im_X0_set se_X0_set (hQ210.1.at 0 rfl) rfl rfl rfl (Nat.le_of_ble_eq_true rfl) ⟨by decide, by decide⟩ ⟨by decide, by decide⟩ (c_X0_set (q := 9) (i := u) hst hQ210.1 hn h12 rfl (by decide) (by simp [sx_1, a_up, va_up, upd]) hu _) (fun A211 hQ211 => ?_)
        skip
        refine J_return dX0_startBout_137 rfl (by decide) (by decide) ?_
        refine ⟨rfl, rfl, ?_, ((((((s201.trans (hQ202.2.wide (by omega) (by omega))).trans (hQ207.2.wide (by omega) (by omega))).trans (hQ208.2.wide (by omega) (by omega))).trans (hQ209.2.wide (by omega) (by omega))).trans (hQ210.2.wide (by omega) (by omega))).trans (hQ211.2.wide (by omega) (by omega)))⟩
        unfold startBoutF
        rw [← er, ← eu]
        first | (rw [if_pos hgt]; exact hQ211.1) | (rw [if_neg hgt]; exact hQ211.1)
    refine J_aload_n dX0_startBout_17 rfl rfl ?_
    refine J_getf dX0_startBout_18 fl_X0_31 (hF.at 0 rfl) rfl ?_
    refine J_iload_n dX0_startBout_21 rfl rfl ?_
    refine J_iload dX0_startBout_22 rfl ?_
    refine J_ifb_eq (tgt := 31) dX0_startBout_24 rfl (fun h24 => ?_) (fun h24 => ?_)
    · have e1 : r = j := by rw [er]; unfold sx_r; rw [if_neg h24]
      have e2 : u = i := by rw [eu]; unfold sx_b; rw [if_neg h24]
      refine J_iload_n dX0_startBout_31 rfl rfl ?_
      refine J_iastN q dX0_startBout_32 (hF.at 4 rfl) rfl (by omega) (by decide) ?_
      refine J_gen (wF_a4 hF _) ((xx_same.rf (b := b) (e := b + 9)).put (by omega) (by omega) _) (fun A1 w1 s1 o1 => ?_)
      refine J_aload_n dX0_startBout_33 rfl rfl ?_
      refine J_getf dX0_startBout_34 fl_X0_34 (w1.at 0 rfl) rfl ?_
      refine J_iload_n dX0_startBout_37 rfl rfl ?_
      refine J_iload dX0_startBout_38 rfl ?_
      refine J_ifb_eq (tgt := 47) dX0_startBout_40 rfl (fun h40 => ?_) (fun h40 => ?_)
      · refine J_iload_n dX0_startBout_47 rfl rfl ?_
        refine J_iastN q dX0_startBout_48 (w1.at 5 rfl) rfl (by omega) (by decide) ?_
        refine J_gen (wF_a5 w1 _) (s1.put (by omega) (by omega) _) (fun A2 w2 s2 o2 => ?_)
        refine xx_J.pick [4, 3, 2, 1] rfl ?_
        exact rest _ (by rw [e1, e2]; exact w2) s2
      · exact absurd h40 h24
    · have e1 : r = i := by rw [er]; unfold sx_r; rw [if_pos h24]
      have e2 : u = j := by rw [eu]; unfold sx_b; rw [if_pos h24]
      refine J_iload_n dX0_startBout_27 rfl rfl ?_
      refine J_goto (tgt := 32) dX0_startBout_28 rfl ?_
      refine J_iastN q dX0_startBout_32 (hF.at 4 rfl) rfl (by omega) (by decide) ?_
      refine J_gen (wF_a4 hF _) ((xx_same.rf (b := b) (e := b + 9)).put (by omega) (by omega) _) (fun A3 w3 s3 o3 => ?_)
      refine J_aload_n dX0_startBout_33 rfl rfl ?_
      refine J_getf dX0_startBout_34 fl_X0_34 (w3.at 0 rfl) rfl ?_
      refine J_iload_n dX0_startBout_37 rfl rfl ?_
      refine J_iload dX0_startBout_38 rfl ?_
      refine J_ifb_eq (tgt := 47) dX0_startBout_40 rfl (fun h40 => ?_) (fun h40 => ?_)
      · exact absurd h24 h40
      · refine J_iload_n dX0_startBout_43 rfl rfl ?_
        refine J_goto (tgt := 48) dX0_startBout_44 rfl ?_
        refine J_iastN q dX0_startBout_48 (w3.at 5 rfl) rfl (by omega) (by decide) ?_
        refine J_gen (wF_a5 w3 _) (s3.put (by omega) (by omega) _) (fun A4 w4 s4 o4 => ?_)
        refine xx_J.pick [4, 3, 2, 1] rfl ?_
        exact rest _ (by rw [e1, e2]; exact w4) s4
  · exact absurd (b_in6 hb h6 hq) h5
variable {bp : Nat} {PS : xS}
/-- places ah i, be i are paired, i < np -/
def prd (PS : xS) (ah be : Nat → Nat) (np nw : Nat) : Prop := PS.1 0 = nI np ∧ np ≤ 6 ∧ ∀ i, i < np → PS.2 1 i = nI (ah i) ∧ ah i < nw ∧ PS.2 2 i = nI (be i) ∧ be i < nw
theorem c_X1_aheadIn (hst : l.stackTraces = false) (hP : xx_w bp (layP bp PS) A) {np : Nat} (hp : PS.1 0 = nI np) (hp6 : np ≤ 6) {i : Nat} {x : Int32} (hx : x = nI i) (hi : i < np) : xx_C G l yX1_aheadIn mX1_aheadIn 0 0 0 0 [.ref bp, .int x] A n (xx_ro (some (.int (PS.2 1 i))) A n) := by
  subst hx
  have ep : (PS.1 0).toInt = np := by rw [hp]; exact i_n (by omega)
  have ei : (nI i).toInt = i := i_n (by omega)
  refine J_C hst (by decide +kernel) rfl rfl rfl (Nat.le_of_ble_eq_true rfl) ?_
  show xx_J _ _ _ _ _ _ _ _ 0 [(0, _), (1, _)] [] _ _ _ _
  refine J_iload_n dX1_aheadIn_0 rfl rfl ?_
  refine J_if_lt (tgt := 21) dX1_aheadIn_1 rfl (fun h1 => ?_) (fun h1 => ?_)
  · first | (exfalso; simp only [i_lt, i_le, i_eq, i_0, i_1, i_2, i_3, i_4, i_5, i_6, i_8, i_9, i_10, i_12, i_16, i_20, i_m1] at h1; omega) | (exfalso; simp only [s_up, a_up, va_up, i_lt, i_le, i_eq, i_0, i_1, i_2, i_3, i_4, i_5, i_6, i_8, i_9, i_10, i_12, i_16, i_20, i_m1, ↓reduceIte, Nat.reduceEqDiff] at h1; omega)
  · refine J_iload_n dX1_aheadIn_4 rfl rfl ?_
    refine J_aload_n dX1_aheadIn_5 rfl rfl ?_
    refine J_getf dX1_aheadIn_6 fl_X1_9 (hP.at 0 rfl) rfl ?_
    refine J_icmp_ge (tgt := 21) dX1_aheadIn_9 rfl (fun h9 => ?_) (fun h9 => ?_)
    · first | (exfalso; simp only [i_lt, i_le, i_eq, i_0, i_1, i_2, i_3, i_4, i_5, i_6, i_8, i_9, i_10, i_12, i_16, i_20, i_m1] at h9; omega) | (exfalso; simp only [s_up, a_up, va_up, i_lt, i_le, i_eq, i_0, i_1, i_2, i_3, i_4, i_5, i_6, i_8, i_9, i_10, i_12, i_16, i_20, i_m1, ↓reduceIte, Nat.reduceEqDiff] at h9; omega)
    · refine J_aload_n dX1_aheadIn_12 rfl rfl ?_
      refine J_getf dX1_aheadIn_13 fl_X1_21 (hP.at 0 rfl) rfl ?_
      refine J_iload_n dX1_aheadIn_16 rfl rfl ?_
      refine J_ialdN i dX1_aheadIn_17 (hP.at 1 rfl) rfl (by omega) (by decide) ?_
      refine J_goto (tgt := 22) dX1_aheadIn_18 rfl ?_
      refine J_ireturn dX1_aheadIn_22 rfl rfl (by decide) (by decide) ?_
      exact ⟨rfl, rfl, rfl⟩
theorem c_X1_behindIn (hst : l.stackTraces = false) (hP : xx_w bp (layP bp PS) A) {np : Nat} (hp : PS.1 0 = nI np) (hp6 : np ≤ 6) {i : Nat} {x : Int32} (hx : x = nI i) (hi : i < np) : xx_C G l yX1_behindIn mX1_behindIn 0 0 0 0 [.ref bp, .int x] A n (xx_ro (some (.int (PS.2 2 i))) A n) := by
  subst hx
  have ep : (PS.1 0).toInt = np := by rw [hp]; exact i_n (by omega)
  have ei : (nI i).toInt = i := i_n (by omega)
  refine J_C hst (by decide +kernel) rfl rfl rfl (Nat.le_of_ble_eq_true rfl) ?_
  show xx_J _ _ _ _ _ _ _ _ 0 [(0, _), (1, _)] [] _ _ _ _
  refine J_iload_n dX1_behindIn_0 rfl rfl ?_
  refine J_if_lt (tgt := 21) dX1_behindIn_1 rfl (fun h1 => ?_) (fun h1 => ?_)
  · first | (exfalso; simp only [i_lt, i_le, i_eq, i_0, i_1, i_2, i_3, i_4, i_5, i_6, i_8, i_9, i_10, i_12, i_16, i_20, i_m1] at h1; omega) | (exfalso; simp only [s_up, a_up, va_up, i_lt, i_le, i_eq, i_0, i_1, i_2, i_3, i_4, i_5, i_6, i_8, i_9, i_10, i_12, i_16, i_20, i_m1, ↓reduceIte, Nat.reduceEqDiff] at h1; omega)
  · refine J_iload_n dX1_behindIn_4 rfl rfl ?_
    refine J_aload_n dX1_behindIn_5 rfl rfl ?_
    refine J_getf dX1_behindIn_6 fl_X1_9 (hP.at 0 rfl) rfl ?_
    refine J_icmp_ge (tgt := 21) dX1_behindIn_9 rfl (fun h9 => ?_) (fun h9 => ?_)
    · first | (exfalso; simp only [i_lt, i_le, i_eq, i_0, i_1, i_2, i_3, i_4, i_5, i_6, i_8, i_9, i_10, i_12, i_16, i_20, i_m1] at h9; omega) | (exfalso; simp only [s_up, a_up, va_up, i_lt, i_le, i_eq, i_0, i_1, i_2, i_3, i_4, i_5, i_6, i_8, i_9, i_10, i_12, i_16, i_20, i_m1, ↓reduceIte, Nat.reduceEqDiff] at h9; omega)
    · refine J_aload_n dX1_behindIn_12 rfl rfl ?_
      refine J_getf dX1_behindIn_13 fl_X1_25 (hP.at 0 rfl) rfl ?_
      refine J_iload_n dX1_behindIn_16 rfl rfl ?_
      refine J_ialdN i dX1_behindIn_17 (hP.at 2 rfl) rfl (by omega) (by decide) ?_
      refine J_goto (tgt := 22) dX1_behindIn_18 rfl ?_
      refine J_ireturn dX1_behindIn_22 rfl rfl (by decide) (by decide) ?_
      exact ⟨rfl, rfl, rfl⟩
def srL (F : xS) (ah be : Nat → Nat) : Nat → xS
  | 0 => F
  | i + 1 => startBoutF (srL F ah be i) i (ah i) (be i)
theorem startBoutF_s (F : xS) (q i j : Nat) : (startBoutF F q i j).1 = F.1 := by unfold startBoutF sx_2; split <;> rfl
theorem srL_s (F : xS) (ah be : Nat → Nat) (i : Nat) : (srL F ah be i).1 = F.1 := by
  induction i with
  | zero => rfl
  | succ i ih => exact (startBoutF_s _ _ _ _).trans ih
abbrev sr_0 (F PS : xS) : xS := s_up (s_up F 1 (F.1 1 + 1)) 5 (PS.1 0)
def restF (F : xS) (r : Int32) : xS := if r = -1 then s_up F 9 r else f_add (f_add (s_up F 9 r) 5 r.toNatClampNeg 1) 1 r.toNatClampNeg ((s_up F 9 r).2 1 2)
def startRoundF (F PS : xS) (ah be : Nat → Nat) (np : Nat) : xS := restF (srL (sr_0 F PS) ah be np) (PS.1 2)
set_option maxHeartbeats 4000000 in
theorem c_X0_startRound (hst : l.stackTraces = false) (hF : xx_w b (layF b F) A) (hP : xx_w bp (layP bp PS) A) (hd : bp + 6 ≤ b ∨ b + 9 ≤ bp) {nw : Nat} (hn : F.1 0 = nI nw) (h12 : nw ≤ 12) {ah be : Nat → Nat} {np : Nat} (hpr : prd PS ah be np nw) (hrs : PS.1 2 = -1 ∨ ∃ r, r < nw ∧ PS.1 2 = nI r) : xx_C G l yX0_startRound mX0_startRound 4 92 0 0 [.ref b, .ref bp] A n (xx_wr none n (fun A' => xx_w b (layF b (startRoundF F PS ah be np)) A' ∧ xx_same b (b + 9) A A')) := by
  obtain ⟨hp, hp6, hpa⟩ := hpr
  refine J_C hst (by decide +kernel) rfl rfl rfl (Nat.le_of_ble_eq_true rfl) ?_
  show xx_J _ _ _ _ _ _ _ _ 0 [(0, _), (1, _)] [] _ _ _ _
  refine J_aload_n dX0_startRound_0 rfl rfl ?_
  refine J_dup dX0_startRound_1 rfl ?_
  refine J_getf dX0_startRound_2 fl_X0_15 (hF.at 0 rfl) rfl ?_
  refine J_iconst (v := 1) dX0_startRound_5 (by decide) ?_
  refine J_iadd dX0_startRound_6 ?_
  refine J_putf dX0_startRound_7 fp_X0_15 (fun _ => ⟨rfl, rfl⟩) (hF.at 0 rfl) (Nat.le_of_ble_eq_true rfl) ?_
  refine J_gen (wF_s0_1 hF _) ((xx_same.rf (b := b) (e := b + 9)).put (by omega) (by omega) _) (fun A1 w1 s1 o1 => ?_)
  have w1P := hP.o2 o1 (m := 6) rfl (by omega)
  refine J_aload_n dX0_startRound_10 rfl rfl ?_
  refine J_aload_n dX0_startRound_11 rfl rfl ?_
  refine J_getf dX0_startRound_12 fl_X0_111 (w1P.at 0 rfl) rfl ?_
  refine J_putf dX0_startRound_15 fp_X0_28 (fun _ => ⟨rfl, rfl⟩) (w1.at 0 rfl) (Nat.le_of_ble_eq_true rfl) ?_
  refine J_gen (wF_s0_5 w1 _) (s1.put (by omega) (by omega) _) (fun A2 w2 s2 o2 => ?_)
  have w2P := w1P.o2 o2 (m := 6) rfl (by omega)
  refine J_iconst (v := 0) dX0_startRound_18 (by decide) ?_
  refine J_istore_n (L' := [(2, _), (0, _), (1, _)]) dX0_startRound_19 rfl (by decide) rfl ?_
  have loop : ∀ i, i ≤ np → ∀ (x : Int32) (A1 : xx_H), (x = nI i) → (xx_w b (layF b (srL (sr_0 F PS) ah be i)) A1) → (xx_w bp (layP bp PS) A1) → (xx_same b (b + 9) A A1) → xx_J G l mX0_startRound 4 92 0 0 (xx_wr none n (fun A' => xx_w b (layF b (startRoundF F PS ah be np)) A' ∧ xx_same b (b + 9) A A')) 20 [(2, .int x), (0, .ref b), (1, .ref bp)] [] A1 n 0 0 := by
    refine xx_dn ?_ ?_
    · intro x  A1  hx hF1 hP1 hs1
      have en : ((srL (sr_0 F PS) ah be np).1 5).toInt = np := by rw [srL_s]; show (PS.1 0).toInt = np; rw [hp]; exact i_n (by omega)
      have ex : x.toInt = np := by rw [hx]; exact i_n (by omega)
      refine J_iload_n dX0_startRound_20 rfl rfl ?_
      refine J_aload_n dX0_startRound_21 rfl rfl ?_
      refine J_getf dX0_startRound_22 fl_X0_28 (hF1.at 0 rfl) rfl ?_
      refine J_icmp_ge (tgt := 49) dX0_startRound_25 rfl (fun h25 => ?_) (fun h25 => ?_)
      · refine J_aload_n dX0_startRound_49 rfl rfl ?_
        refine J_aload_n dX0_startRound_50 rfl rfl ?_
        refine J_getf dX0_startRound_51 fl_X0_125 (hP1.at 0 rfl) rfl ?_
        refine J_putf dX0_startRound_54 fp_X0_40 (fun _ => ⟨rfl, rfl⟩) (hF1.at 0 rfl) (Nat.le_of_ble_eq_true rfl) ?_
        refine J_gen (wF_s0_9 hF1 _) (hs1.put (by omega) (by omega) _) (fun A23 w23 s23 o23 => ?_)
        have w23P := hP1.o2 o23 (m := 6) rfl (by omega)
        refine J_aload_n dX0_startRound_57 rfl rfl ?_
        refine J_getf dX0_startRound_58 fl_X0_40 (w23.at 0 rfl) rfl ?_
        refine J_iconst (v := -1) dX0_startRound_61 (by decide) ?_
        refine J_icmp_eq (tgt := 90) dX0_startRound_62 rfl (fun h62 => ?_) (fun h62 => ?_)
        · refine J_return dX0_startRound_90 rfl (by decide) (by decide) ?_
          refine ⟨rfl, rfl, ?_, s23⟩
          unfold startRoundF restF
          first | (have h6 : PS.1 2 = -1 := h62; rw [if_pos h6]; exact w23) | (have h6 : ¬ PS.1 2 = -1 := h62; rw [if_neg h6]; rw [ec]; exact w23)
        · have hn9 : (s_up (srL (sr_0 F PS) ah be np) 9 (PS.1 2)).1 0 = nI nw := by show (srL (sr_0 F PS) ah be np).1 0 = nI nw; rw [srL_s]; exact hn
          obtain ⟨r, hr, er⟩ := hrs.resolve_left h62
          have ec : (PS.1 2).toNatClampNeg = r := by rw [er]; exact nI_clamp (by omega)
          refine J_aload_n dX0_startRound_65 rfl rfl ?_
          refine J_iconst (v := 5) dX0_startRound_66 (by decide) ?_
          refine J_aload_n dX0_startRound_67 rfl rfl ?_
          refine J_getf dX0_startRound_68 fl_X0_40 (w23.at 0 rfl) rfl ?_
          refine J_iconst (v := 1) dX0_startRound_71 (by decide) ?_
          refine J_callVw (As := [_, _, _]) dX0_startRound_72 ml_X0_126 cal_X0_add im_X0_add se_X0_add (w23.at 0 rfl) rfl rfl rfl (Nat.le_of_ble_eq_true rfl) ⟨by decide, by decide⟩ ⟨by decide, by decide⟩ (c_X0_add (q := 5) (i := r) hst w23 hn9 h12 rfl (by decide) er hr _) (fun A24 hQ24 => ?_)
          have w24P := w23P.s2 hQ24.2 (m := 6) rfl (by omega)
          refine J_aload_n dX0_startRound_75 rfl rfl ?_
          refine J_iconst (v := 1) dX0_startRound_76 (by decide) ?_
          refine J_aload_n dX0_startRound_77 rfl rfl ?_
          refine J_getf dX0_startRound_78 fl_X0_40 (hQ24.1.at 0 rfl) rfl ?_
          refine J_aload_n dX0_startRound_81 rfl rfl ?_
          refine J_getf dX0_startRound_82 fl_X0_18 (hQ24.1.at 0 rfl) rfl ?_
          refine J_iconst (v := 2) dX0_startRound_85 (by decide) ?_
          refine J_ialdN 2 dX0_startRound_86 (hQ24.1.at 1 rfl) rfl (by decide) (by decide) ?_
          refine J_callVw (As := [_, _, _]) dX0_startRound_87 ml_X0_126 cal_X0_add im_X0_add se_X0_add (hQ24.1.at 0 rfl) rfl rfl rfl (Nat.le_of_ble_eq_true rfl) ⟨by decide, by decide⟩ ⟨by decide, by decide⟩ (c_X0_add (q := 1) (i := r) hst hQ24.1 hn9 h12 rfl (by decide) er hr _) (fun A25 hQ25 => ?_)
          have w25P := w24P.s2 hQ25.2 (m := 6) rfl (by omega)
          refine J_return dX0_startRound_90 rfl (by decide) (by decide) ?_
          refine ⟨rfl, rfl, ?_, ((s23.trans (hQ24.2.wide (by omega) (by omega))).trans (hQ25.2.wide (by omega) (by omega)))⟩
          unfold startRoundF restF
          first | (have h6 : PS.1 2 = -1 := h62; rw [if_pos h6]; exact hQ25.1) | (have h6 : ¬ PS.1 2 = -1 := h62; rw [if_neg h6]; rw [ec]; exact hQ25.1)
      · first | (exfalso; simp only [i_lt, i_le, i_eq, i_0, i_1, i_2, i_3, i_4, i_5, i_6, i_8, i_9, i_10, i_12, i_16, i_20, i_m1] at h25; omega) | (exfalso; simp only [s_up, a_up, va_up, i_lt, i_le, i_eq, i_0, i_1, i_2, i_3, i_4, i_5, i_6, i_8, i_9, i_10, i_12, i_16, i_20, i_m1, ↓reduceIte, Nat.reduceEqDiff] at h25; omega)
    · intro i hii ih x  A1  hx hF1 hP1 hs1
      have en : ((srL (sr_0 F PS) ah be i).1 5).toInt = np := by rw [srL_s]; show (PS.1 0).toInt = np; rw [hp]; exact i_n (by omega)
      have ex : x.toInt = i := by rw [hx]; exact i_n (by omega)
      refine J_iload_n dX0_startRound_20 rfl rfl ?_
      refine J_aload_n dX0_startRound_21 rfl rfl ?_
      refine J_getf dX0_startRound_22 fl_X0_28 (hF1.at 0 rfl) rfl ?_
      refine J_icmp_ge (tgt := 49) dX0_startRound_25 rfl (fun h25 => ?_) (fun h25 => ?_)
      · first | (exfalso; simp only [i_lt, i_le, i_eq, i_0, i_1, i_2, i_3, i_4, i_5, i_6, i_8, i_9, i_10, i_12, i_16, i_20, i_m1] at h25; omega) | (exfalso; simp only [s_up, a_up, va_up, i_lt, i_le, i_eq, i_0, i_1, i_2, i_3, i_4, i_5, i_6, i_8, i_9, i_10, i_12, i_16, i_20, i_m1, ↓reduceIte, Nat.reduceEqDiff] at h25; omega)
      · refine J_aload_n dX0_startRound_28 rfl rfl ?_
        refine J_iload_n dX0_startRound_29 rfl rfl ?_
        refine J_aload_n dX0_startRound_30 rfl rfl ?_
        refine J_iload_n dX0_startRound_31 rfl rfl ?_
        refine J_callVr (As := [_]) dX0_startRound_32 ml_X0_116 cal_X1_aheadIn im_X1_aheadIn se_X1_aheadIn (hP1.at 0 rfl) rfl rfl rfl (Nat.le_of_ble_eq_true rfl) ⟨by decide, by decide⟩ ⟨by decide, by decide⟩ (c_X1_aheadIn hst hP1 hp hp6 hx hii) ?_
        refine J_aload_n dX0_startRound_35 rfl rfl ?_
        refine J_iload_n dX0_startRound_36 rfl rfl ?_
        refine J_callVr (As := [_]) dX0_startRound_37 ml_X0_119 cal_X1_behindIn im_X1_behindIn se_X1_behindIn (hP1.at 0 rfl) rfl rfl rfl (Nat.le_of_ble_eq_true rfl) ⟨by decide, by decide⟩ ⟨by decide, by decide⟩ (c_X1_behindIn hst hP1 hp hp6 hx hii) ?_
        refine J_callVw (As := [_, _, _]) dX0_startRound_40 ml_X0_122 cal_X0_startBout im_X0_startBout se_X0_startBout (hF1.at 0 rfl) rfl rfl rfl (Nat.le_of_ble_eq_true rfl) ⟨by decide, by decide⟩ ⟨by decide, by decide⟩ (c_X0_startBout hst hF1 (by rw [srL_s]; exact hn) h12 (by rw [srL_s]; exact hp) hp6 hx hii (hpa i hii).1 (hpa i hii).2.1 (hpa i hii).2.2.1 (hpa i hii).2.2.2) (fun A53 hQ53 => ?_)
        have w53P := hP1.s2 hQ53.2 (m := 6) rfl (by omega)
        refine J_iinc (v := _ + 1) (L' := [(2, _), (0, _), (1, _)]) dX0_startRound_43 rfl rfl (by decide) rfl ?_
        refine J_goto (tgt := 20) dX0_startRound_46 rfl ?_
        refine xx_J.pick [0, 1, 2] rfl ?_
        exact ih _ _ (by rw [hx]; exact nI_1 i) hQ53.1 w53P (hs1.trans (hQ53.2.wide (by omega) (by omega)))
  refine xx_J.pick [0, 1, 2] rfl ?_
  exact loop 0 (by omega) _ _ rfl w2 w2P s2
/-- a new tournament: m wrestlers of strengths gs, worths gw -/
def begC (m i : Nat) (gs f : Nat → Int32) : Nat → Int32 := fun p => if p < i then gs p else if 96 ≤ p ∧ p < 96 + i then 1 else if p < 120 then 0 else f p
theorem begC_s {m i : Nat} {gs f : Nat → Int32} (hi : i < 12) : upd (upd (begC m i gs f) (0 * 12 + i) (gs i)) (8 * 12 + i) 1 = begC m (i + 1) gs f := by
  funext p
  simp only [upd, begC]
  (repeat' split) <;> first | rfl | (exfalso; omega) | (congr 1; omega)
theorem begC_0 {m : Nat} {gs f : Nat → Int32} : fil 0 120 f = begC m 0 gs f := by
  funext p
  simp only [fil, begC]
  (repeat' split) <;> first | rfl | (exfalso; omega)
def begW (i : Nat) (gw f : Nat → Int32) : Nat → Int32 := fun p => if p < i then gw p else f p
theorem begW_s {i : Nat} {gw f : Nat → Int32} : upd (begW i gw f) i (gw i) = begW (i + 1) gw f := by
  funext p
  simp only [upd, begW]
  (repeat' split) <;> first | rfl | (exfalso; omega) | (congr 1; omega)
theorem begW_0 {gw f : Nat → Int32} : f = begW 0 gw f := by funext p; simp [begW]
theorem a_up_c {X : xS} {i j : Nat} {f g : Nat → Int32} (h : i ≠ j) : a_up (a_up X i f) j g = a_up (a_up X j g) i f := by
  unfold a_up
  simp only [Prod.mk.injEq, true_and]
  funext q
  simp only [va_up]
  (repeat' split) <;> first | rfl | (exfalso; omega)
theorem a_up_u {X : xS} {i : Nat} {f g : Nat → Int32} : a_up (a_up X i f) i g = a_up X i g := by
  unfold a_up
  simp only [Prod.mk.injEq, true_and]
  funext q
  simp only [va_up]
  split <;> rfl
abbrev beg_0 (F : xS) (m : Nat) : xS := s_up (s_up (s_up (s_up F 0 (nI m)) 1 0) 5 0) 9 (-1)
abbrev beg_1 (F : xS) (m i : Nat) (gs : Nat → Int32) : xS := a_up (a_up (beg_0 F m) 3 (fil 0 144 (F.2 3))) 2 (begC m i gs (F.2 2))
abbrev begN (F : xS) (m : Nat) (gs : Nat → Int32) : xS := beg_1 F m m gs
def beginF (F : xS) (m : Nat) (gs gw : Nat → Int32) : xS := a_up (begN F m gs) 1 (begW 3 gw (F.2 1))
theorem c_X0_begin (hst : l.stackTraces = false) (hF : xx_w b (layF b F) A) {hs hw : Nat} {gs gw : Nat → Int32} (hS : xx_w hs [(0, .inl (0, 12, .inl gs))] A) (hT : xx_w hw [(0, .inl (0, 3, .inl gw))] A) (hd1 : hs + 1 ≤ b ∨ b + 9 ≤ hs) (hd2 : hw + 1 ≤ b ∨ b + 9 ≤ hw) {m : Nat} {x0 : Int32} (hx0 : x0 = nI m) (hm : m ≤ 12) : xx_C G l yX0_begin mX0_begin 2 45 0 0 [.ref b, .int x0, .ref hs, .ref hw] A n (xx_wr none n (fun A' => xx_w b (layF b (beginF F m gs gw)) A' ∧ xx_same b (b + 9) A A')) := by
  subst hx0
  have e12 : (if (12 : Int32) < nI m then (12 : Int32) else nI m) = nI m := if_neg (by rw [i_lt, i_12, i_n (by omega)]; omega)
  have e13 : (if (nI 12) < nI m then (nI 12) else nI m) = nI m := if_neg (by rw [i_lt, i_n (by omega), i_n (by omega)]; omega)
  refine J_C hst (by decide +kernel) rfl rfl rfl (Nat.le_of_ble_eq_true rfl) ?_
  show xx_J _ _ _ _ _ _ _ _ 0 [(0, _), (1, _), (2, _), (3, _)] [] _ _ _ _
  refine J_aload_n dX0_begin_0 rfl rfl ?_
  refine J_iload_n dX0_begin_1 rfl rfl ?_
  refine J_bipush (v := 12) dX0_begin_2 (by decide) ?_
  refine J_min dX0_begin_4 ml_X0_49 ⟨by decide, Nat.le_of_ble_eq_true rfl⟩ ⟨by decide, by decide⟩ ?_
  rw [e12]
  refine J_aload_n dX0_begin_7 rfl rfl ?_
  refine J_alen dX0_begin_8 (hS.at 0 rfl) (by decide) rfl ?_
  refine J_min dX0_begin_9 ml_X0_49 ⟨by decide, Nat.le_of_ble_eq_true rfl⟩ ⟨by decide, by decide⟩ ?_
  change xx_J _ _ _ _ _ _ _ _ _ _ [.int (if nI 12 < nI m then nI 12 else nI m), .ref b] _ _ _ _
  rw [e13]
  refine J_putf dX0_begin_12 fp_X0_9 (fun _ => ⟨rfl, rfl⟩) (hF.at 0 rfl) (Nat.le_of_ble_eq_true rfl) ?_
  refine J_gen (wF_s0_0 hF _) ((xx_same.rf (b := b) (e := b + 9)).put (by omega) (by omega) _) (fun A1 w1 s1 o1 => ?_)
  have w1S := hS.o2 o1 (m := 1) rfl (by omega)
  have w1T := hT.o2 o1 (m := 1) rfl (by omega)
  refine J_aload_n dX0_begin_15 rfl rfl ?_
  refine J_iconst (v := 0) dX0_begin_16 (by decide) ?_
  refine J_putf dX0_begin_17 fp_X0_15 (fun _ => ⟨rfl, rfl⟩) (w1.at 0 rfl) (Nat.le_of_ble_eq_true rfl) ?_
  refine J_gen (wF_s0_1 w1 _) (s1.put (by omega) (by omega) _) (fun A2 w2 s2 o2 => ?_)
  have w2S := w1S.o2 o2 (m := 1) rfl (by omega)
  have w2T := w1T.o2 o2 (m := 1) rfl (by omega)
  refine J_aload_n dX0_begin_20 rfl rfl ?_
  refine J_iconst (v := 0) dX0_begin_21 (by decide) ?_
  refine J_putf dX0_begin_22 fp_X0_28 (fun _ => ⟨rfl, rfl⟩) (w2.at 0 rfl) (Nat.le_of_ble_eq_true rfl) ?_
  refine J_gen (wF_s0_5 w2 _) (s2.put (by omega) (by omega) _) (fun A3 w3 s3 o3 => ?_)
  have w3S := w2S.o2 o3 (m := 1) rfl (by omega)
  have w3T := w2T.o2 o3 (m := 1) rfl (by omega)
  refine J_aload_n dX0_begin_25 rfl rfl ?_
  refine J_iconst (v := -1) dX0_begin_26 (by decide) ?_
  refine J_putf dX0_begin_27 fp_X0_40 (fun _ => ⟨rfl, rfl⟩) (w3.at 0 rfl) (Nat.le_of_ble_eq_true rfl) ?_
  refine J_gen (wF_s0_9 w3 _) (s3.put (by omega) (by omega) _) (fun A4 w4 s4 o4 => ?_)
  have w4S := w3S.o2 o4 (m := 1) rfl (by omega)
  have w4T := w3T.o2 o4 (m := 1) rfl (by omega)
  refine J_aload_n dX0_begin_30 rfl rfl ?_
  refine J_getf dX0_begin_31 fl_X0_22 (w4.at 0 rfl) rfl ?_
  refine J_iconst (v := 0) dX0_begin_34 (by decide) ?_
  refine J_callSw (As := [_, _]) dX0_begin_35 ml_X0_55 cal_J7_fill_53178 sm_J7_fill_53178 rfl rfl (Nat.le_of_ble_eq_true rfl) ⟨by decide, by decide⟩ ⟨by decide, by decide⟩ (c_J7_fill_53178 hst (w4.at 2 rfl) (by decide) 0) (fun A5 hQ5 => ?_)
  subst hQ5
  refine J_gen (wF_a2 w4 _) (s4.put (by omega) (by omega) _) (fun A5 w5 s5 o5 => ?_)
  have w5S := w4S.o2 o5 (m := 1) rfl (by omega)
  have w5T := w4T.o2 o5 (m := 1) rfl (by omega)
  refine J_aload_n dX0_begin_38 rfl rfl ?_
  refine J_getf dX0_begin_39 fl_X0_25 (w5.at 0 rfl) rfl ?_
  refine J_iconst (v := 0) dX0_begin_42 (by decide) ?_
  refine J_callSw (As := [_, _]) dX0_begin_43 ml_X0_55 cal_J7_fill_53178 sm_J7_fill_53178 rfl rfl (Nat.le_of_ble_eq_true rfl) ⟨by decide, by decide⟩ ⟨by decide, by decide⟩ (c_J7_fill_53178 hst (w5.at 3 rfl) (by decide) 0) (fun A6 hQ6 => ?_)
  subst hQ6
  refine J_gen (wF_a3 w5 _) (s5.put (by omega) (by omega) _) (fun A6 w6 s6 o6 => ?_)
  have w6S := w5S.o2 o6 (m := 1) rfl (by omega)
  have w6T := w5T.o2 o6 (m := 1) rfl (by omega)
  refine J_iconst (v := 0) dX0_begin_46 (by decide) ?_
  refine J_istore (L' := [(4, _), (0, _), (1, _), (2, _), (3, _)]) dX0_begin_47 (by decide) rfl ?_
  have loop : ∀ i, i ≤ m → ∀ (x : Int32) (A1 : xx_H), (x = nI i) → (xx_w b (layF b (beg_1 F m i gs)) A1) → (xx_w hs [(0, .inl (0, 12, .inl gs))] A1) → (xx_w hw [(0, .inl (0, 3, .inl gw))] A1) → (xx_same b (b + 9) A A1) → xx_J G l mX0_begin 2 45 0 0 (xx_wr none n (fun A' => xx_w b (layF b (beginF F m gs gw)) A' ∧ xx_same b (b + 9) A A')) 49 [(4, .int x), (0, .ref b), (2, .ref hs), (3, .ref hw)] [] A1 n 0 0 := by
    refine xx_dn ?_ ?_
    · intro x  A1  hx hF1 hS1 hT1 hs1
      have en : (va_up (va_up (va_up (va_up F.1 0 (nI m)) 1 0) 5 0) 9 (-1) 0).toInt = m := i_n (by omega)
      have ex : x.toInt = m := by rw [hx]; exact i_n (by omega)
      refine J_iload dX0_begin_49 rfl ?_
      refine J_aload_n dX0_begin_51 rfl rfl ?_
      refine J_getf dX0_begin_52 fl_X0_9 (hF1.at 0 rfl) rfl ?_
      refine J_icmp_ge (tgt := 84) dX0_begin_55 rfl (fun h55 => ?_) (fun h55 => ?_)
      · refine J_iconst (v := 0) dX0_begin_84 (by decide) ?_
        refine J_istore (L' := [(4, _), (0, _), (2, _), (3, _)]) dX0_begin_85 (by decide) rfl ?_
        have loop2 : ∀ i, i ≤ 3 → ∀ (x : Int32) (A1 : xx_H), (x = nI i) → (xx_w b (layF b (a_up (begN F m gs) 1 (begW i gw (F.2 1)))) A1) → (xx_w hw [(0, .inl (0, 3, .inl gw))] A1) → (xx_same b (b + 9) A A1) → xx_J G l mX0_begin 2 45 0 0 (xx_wr none n (fun A' => xx_w b (layF b (beginF F m gs gw)) A' ∧ xx_same b (b + 9) A A')) 87 [(4, .int x), (0, .ref b), (2, .ref hs), (3, .ref hw)] [] A1 n 0 0 := by
          refine xx_dn ?_ ?_
          · intro x  A1  hx hF1 hT1 hs1
            have ex : x.toInt = 3 := by rw [hx]; exact i_n (by omega)
            refine J_iload dX0_begin_87 rfl ?_
            refine J_iconst (v := 3) dX0_begin_89 (by decide) ?_
            refine J_icmp_ge (tgt := 117) dX0_begin_90 rfl (fun h90 => ?_) (fun h90 => ?_)
            · refine J_return dX0_begin_117 rfl (by decide) (by decide) ?_
              exact ⟨rfl, rfl, hF1, hs1⟩
            · first | (exfalso; simp only [i_lt, i_le, i_eq, i_0, i_1, i_2, i_3, i_4, i_5, i_6, i_8, i_9, i_10, i_12, i_16, i_20, i_m1] at h90; omega) | (exfalso; simp only [s_up, a_up, va_up, i_lt, i_le, i_eq, i_0, i_1, i_2, i_3, i_4, i_5, i_6, i_8, i_9, i_10, i_12, i_16, i_20, i_m1, ↓reduceIte, Nat.reduceEqDiff] at h90; omega)
          · intro i hii ih x  A1  hx hF1 hT1 hs1
            have ex : x.toInt = i := by rw [hx]; exact i_n (by omega)
            have e3 : (Int32.ofNat 3).toInt = 3 := rfl
            refine J_iload dX0_begin_87 rfl ?_
            refine J_iconst (v := 3) dX0_begin_89 (by decide) ?_
            refine J_icmp_ge (tgt := 117) dX0_begin_90 rfl (fun h90 => ?_) (fun h90 => ?_)
            · first | (exfalso; simp only [i_lt, i_le, i_eq, i_0, i_1, i_2, i_3, i_4, i_5, i_6, i_8, i_9, i_10, i_12, i_16, i_20, i_m1] at h90; omega) | (exfalso; simp only [s_up, a_up, va_up, i_lt, i_le, i_eq, i_0, i_1, i_2, i_3, i_4, i_5, i_6, i_8, i_9, i_10, i_12, i_16, i_20, i_m1, ↓reduceIte, Nat.reduceEqDiff] at h90; omega)
            · refine J_iload dX0_begin_93 rfl ?_
              refine J_aload_n dX0_begin_95 rfl rfl ?_
              refine J_alen dX0_begin_96 (hT1.at 0 rfl) (by decide) rfl ?_
              refine J_icmp_ge (tgt := 117) dX0_begin_97 rfl (fun h97 => ?_) (fun h97 => ?_)
              · first | (exfalso; simp only [i_lt, i_le, i_eq, i_0, i_1, i_2, i_3, i_4, i_5, i_6, i_8, i_9, i_10, i_12, i_16, i_20, i_m1] at h97; omega) | (exfalso; simp only [s_up, a_up, va_up, i_lt, i_le, i_eq, i_0, i_1, i_2, i_3, i_4, i_5, i_6, i_8, i_9, i_10, i_12, i_16, i_20, i_m1, ↓reduceIte, Nat.reduceEqDiff] at h97; omega)
              · refine J_aload_n dX0_begin_100 rfl rfl ?_
                refine J_getf dX0_begin_101 fl_X0_18 (hF1.at 0 rfl) rfl ?_
                refine J_iload dX0_begin_104 rfl ?_
                refine J_aload_n dX0_begin_106 rfl rfl ?_
                refine J_iload dX0_begin_107 rfl ?_
                refine J_ialdN i dX0_begin_109 (hT1.at 0 rfl) hx (by omega) (by decide) ?_
                refine J_iastN i dX0_begin_110 (hF1.at 1 rfl) hx (by omega) (by decide) ?_
                refine J_gen (wF_a1 hF1 _) (hs1.put (by omega) (by omega) _) (fun A77 w77 s77 o77 => ?_)
                have w77T := hT1.o2 o77 (m := 1) rfl (by omega)
                refine J_iinc (v := _ + 1) (L' := [(4, _), (0, _), (2, _), (3, _)]) dX0_begin_111 rfl rfl (by decide) rfl ?_
                refine J_goto (tgt := 87) dX0_begin_114 rfl ?_
                refine xx_J.pick [0, 1, 2, 3] rfl ?_
                exact ih _ _ (by rw [hx]; exact nI_1 i) (by rw [← begW_s]; exact wF_uu w77) w77T s77
        refine xx_J.pick [0, 1, 2, 3] rfl ?_
        exact loop2 0 (by omega) _ _ rfl (by rw [← begW_0, show a_up (begN F m gs) 1 (F.2 1) = begN F m gs from by unfold a_up; simp only [Prod.mk.injEq, true_and]; funext q; simp only [va_up]; split <;> first | rfl | (rename_i hq; subst hq; rfl)]; exact hF1) hT1 hs1
      · first | (exfalso; simp only [i_lt, i_le, i_eq, i_0, i_1, i_2, i_3, i_4, i_5, i_6, i_8, i_9, i_10, i_12, i_16, i_20, i_m1] at h55; omega) | (exfalso; simp only [s_up, a_up, va_up, i_lt, i_le, i_eq, i_0, i_1, i_2, i_3, i_4, i_5, i_6, i_8, i_9, i_10, i_12, i_16, i_20, i_m1, ↓reduceIte, Nat.reduceEqDiff] at h55; omega)
    · intro i hii ih x  A1  hx hF1 hS1 hT1 hs1
      have en : (va_up (va_up (va_up (va_up F.1 0 (nI m)) 1 0) 5 0) 9 (-1) 0).toInt = m := i_n (by omega)
      have ex : x.toInt = i := by rw [hx]; exact i_n (by omega)
      refine J_iload dX0_begin_49 rfl ?_
      refine J_aload_n dX0_begin_51 rfl rfl ?_
      refine J_getf dX0_begin_52 fl_X0_9 (hF1.at 0 rfl) rfl ?_
      refine J_icmp_ge (tgt := 84) dX0_begin_55 rfl (fun h55 => ?_) (fun h55 => ?_)
      · first | (exfalso; simp only [i_lt, i_le, i_eq, i_0, i_1, i_2, i_3, i_4, i_5, i_6, i_8, i_9, i_10, i_12, i_16, i_20, i_m1] at h55; omega) | (exfalso; simp only [s_up, a_up, va_up, i_lt, i_le, i_eq, i_0, i_1, i_2, i_3, i_4, i_5, i_6, i_8, i_9, i_10, i_12, i_16, i_20, i_m1, ↓reduceIte, Nat.reduceEqDiff] at h55; omega)
      · refine J_aload_n dX0_begin_58 rfl rfl ?_
        refine J_iconst (v := 0) dX0_begin_59 (by decide) ?_
        refine J_iload dX0_begin_60 rfl ?_
        refine J_aload_n dX0_begin_62 rfl rfl ?_
        refine J_iload dX0_begin_63 rfl ?_
        refine J_ialdN i dX0_begin_65 (hS1.at 0 rfl) hx (by omega) (by decide) ?_
        refine J_callVw (As := [_, _, _]) dX0_begin_66 ml_X0_61 cal_X0_set im_X0_set se_X0_set (hF1.at 0 rfl) rfl rfl rfl (Nat.le_of_ble_eq_true rfl) ⟨by decide, by decide⟩ ⟨by decide, by decide⟩ (c_X0_set (q := 0) (i := i) (nw := m) hst hF1 rfl hm rfl (by decide) hx hii _) (fun A57 hQ57 => ?_)
        have w57S := hS1.s2 hQ57.2 (m := 1) rfl (by omega)
        have w57T := hT1.s2 hQ57.2 (m := 1) rfl (by omega)
        refine J_aload_n dX0_begin_69 rfl rfl ?_
        refine J_bipush (v := 8) dX0_begin_70 (by decide) ?_
        refine J_iload dX0_begin_72 rfl ?_
        refine J_iconst (v := 1) dX0_begin_74 (by decide) ?_
        refine J_callVw (As := [_, _, _]) dX0_begin_75 ml_X0_61 cal_X0_set im_X0_set se_X0_set (hQ57.1.at 0 rfl) rfl rfl rfl (Nat.le_of_ble_eq_true rfl) ⟨by decide, by decide⟩ ⟨by decide, by decide⟩ (c_X0_set (q := 8) (i := i) (nw := m) hst hQ57.1 rfl hm rfl (by decide) hx hii _) (fun A58 hQ58 => ?_)
        have w58S := w57S.s2 hQ58.2 (m := 1) rfl (by omega)
        have w58T := w57T.s2 hQ58.2 (m := 1) rfl (by omega)
        refine J_iinc (v := _ + 1) (L' := [(4, _), (0, _), (2, _), (3, _)]) dX0_begin_78 rfl rfl (by decide) rfl ?_
        refine J_goto (tgt := 49) dX0_begin_81 rfl ?_
        refine xx_J.pick [0, 1, 2, 3] rfl ?_
        exact ih _ _ (by rw [hx]; exact nI_1 i) (by unfold beg_1; rw [← begC_s (by omega)]; exact wF_uu (wF_uu hQ58.1)) w58S w58T ((hs1.trans (hQ57.2.wide (by omega) (by omega))).trans (hQ58.2.wide (by omega) (by omega)))
  refine xx_J.pick [0, 1, 3, 4] rfl ?_
  exact loop 0 (by omega) _ _ rfl (by unfold beg_1; rw [← begC_0, ← a_up_c (by decide)]; exact w6) w6S w6T s6
variable {bo : Nat} {OS : xS}
abbrev cpa (f g : Nat → Int32) (z : Int32) : Nat → Int32 := va_cpy f g (0 : Int32).toNatClampNeg (0 : Int32).toNatClampNeg z.toNatClampNeg
/-- all but the order -/
def cpyF (F O : xS) : xS := a_up (a_up (a_up (a_up (a_up (a_up (s_up (s_up (s_up (s_up F 0 (O.1 0)) 1 (O.1 1)) 5 (O.1 5)) 9 (O.1 9)) 1 (cpa (O.2 1) (F.2 1) 3)) 2 (cpa (O.2 2) (F.2 2) 120)) 3 (cpa (O.2 3) (F.2 3) 144)) 4 (cpa (O.2 4) (F.2 4) 6)) 5 (cpa (O.2 5) (F.2 5) 6)) 6 (cpa (O.2 6) (F.2 6) 6)
set_option maxHeartbeats 4000000 in
theorem c_X0_copyFrom (hst : l.stackTraces = false) (hF : xx_w b (layF b F) A) (hO : xx_w bo (layF bo OS) A) (hd : bo + 9 ≤ b ∨ b + 9 ≤ bo) : xx_C G l yX0_copyFrom mX0_copyFrom 1 60 0 0 [.ref b, .ref bo] A n (xx_wr none n (fun A' => xx_w b (layF b (cpyF F OS)) A' ∧ xx_same b (b + 9) A A')) := by
  refine J_C hst (by decide +kernel) rfl rfl rfl (Nat.le_of_ble_eq_true rfl) ?_
  show xx_J _ _ _ _ _ _ _ _ 0 [(0, _), (1, _)] [] _ _ _ _
  refine J_aload_n dX0_copyFrom_0 rfl rfl ?_
  refine J_aload_n dX0_copyFrom_1 rfl rfl ?_
  refine J_getf dX0_copyFrom_2 fl_X0_9 (hO.at 0 rfl) rfl ?_
  refine J_putf dX0_copyFrom_5 fp_X0_9 (fun _ => ⟨rfl, rfl⟩) (hF.at 0 rfl) (Nat.le_of_ble_eq_true rfl) ?_
  refine J_gen (wF_s0_0 hF _) ((xx_same.rf (b := b) (e := b + 9)).put (by omega) (by omega) _) (fun A1 w1 s1 o1 => ?_)
  have w1O := hO.o2 o1 (m := 9) rfl (by omega)
  refine J_aload_n dX0_copyFrom_8 rfl rfl ?_
  refine J_aload_n dX0_copyFrom_9 rfl rfl ?_
  refine J_getf dX0_copyFrom_10 fl_X0_15 (w1O.at 0 rfl) rfl ?_
  refine J_putf dX0_copyFrom_13 fp_X0_15 (fun _ => ⟨rfl, rfl⟩) (w1.at 0 rfl) (Nat.le_of_ble_eq_true rfl) ?_
  refine J_gen (wF_s0_1 w1 _) (s1.put (by omega) (by omega) _) (fun A2 w2 s2 o2 => ?_)
  have w2O := w1O.o2 o2 (m := 9) rfl (by omega)
  refine J_aload_n dX0_copyFrom_16 rfl rfl ?_
  refine J_aload_n dX0_copyFrom_17 rfl rfl ?_
  refine J_getf dX0_copyFrom_18 fl_X0_28 (w2O.at 0 rfl) rfl ?_
  refine J_putf dX0_copyFrom_21 fp_X0_28 (fun _ => ⟨rfl, rfl⟩) (w2.at 0 rfl) (Nat.le_of_ble_eq_true rfl) ?_
  refine J_gen (wF_s0_5 w2 _) (s2.put (by omega) (by omega) _) (fun A3 w3 s3 o3 => ?_)
  have w3O := w2O.o2 o3 (m := 9) rfl (by omega)
  refine J_aload_n dX0_copyFrom_24 rfl rfl ?_
  refine J_aload_n dX0_copyFrom_25 rfl rfl ?_
  refine J_getf dX0_copyFrom_26 fl_X0_40 (w3O.at 0 rfl) rfl ?_
  refine J_putf dX0_copyFrom_29 fp_X0_40 (fun _ => ⟨rfl, rfl⟩) (w3.at 0 rfl) (Nat.le_of_ble_eq_true rfl) ?_
  refine J_gen (wF_s0_9 w3 _) (s3.put (by omega) (by omega) _) (fun A4 w4 s4 o4 => ?_)
  have w4O := w3O.o2 o4 (m := 9) rfl (by omega)
  refine J_aload_n dX0_copyFrom_32 rfl rfl ?_
  refine J_getf dX0_copyFrom_33 fl_X0_18 (w4O.at 0 rfl) rfl ?_
  refine J_iconst (v := 0) dX0_copyFrom_36 (by decide) ?_
  refine J_aload_n dX0_copyFrom_37 rfl rfl ?_
  refine J_getf dX0_copyFrom_38 fl_X0_18 (w4.at 0 rfl) rfl ?_
  refine J_iconst (v := 0) dX0_copyFrom_41 (by decide) ?_
  refine J_iconst (v := 3) dX0_copyFrom_42 (by decide) ?_
  refine J_copy (Or.inl rfl) dX0_copyFrom_43 ml_X0_65 na_copy sm_copy in_java_lang_System (w4O.at 1 rfl) (w4.at 1 rfl) (by decide) (by decide) (by decide) (by decide) (by decide) (fun h => nomatch h) ⟨by decide, by decide⟩ ?_
  refine J_gen (wF_a1 w4 _) (s4.put (by omega) (by omega) _) (fun A5 w5 s5 o5 => ?_)
  have w5O := w4O.o2 o5 (m := 9) rfl (by omega)
  refine J_aload_n dX0_copyFrom_46 rfl rfl ?_
  refine J_getf dX0_copyFrom_47 fl_X0_22 (w5O.at 0 rfl) rfl ?_
  refine J_iconst (v := 0) dX0_copyFrom_50 (by decide) ?_
  refine J_aload_n dX0_copyFrom_51 rfl rfl ?_
  refine J_getf dX0_copyFrom_52 fl_X0_22 (w5.at 0 rfl) rfl ?_
  refine J_iconst (v := 0) dX0_copyFrom_55 (by decide) ?_
  refine J_bipush (v := 120) dX0_copyFrom_56 (by decide) ?_
  refine J_copy (Or.inl rfl) dX0_copyFrom_58 ml_X0_65 na_copy sm_copy in_java_lang_System (w5O.at 2 rfl) (w5.at 2 rfl) (by decide) (by decide) (by decide) (by decide) (by decide) (fun h => nomatch h) ⟨by decide, by decide⟩ ?_
  refine J_gen (wF_a2 w5 _) (s5.put (by omega) (by omega) _) (fun A6 w6 s6 o6 => ?_)
  have w6O := w5O.o2 o6 (m := 9) rfl (by omega)
  refine J_aload_n dX0_copyFrom_61 rfl rfl ?_
  refine J_getf dX0_copyFrom_62 fl_X0_25 (w6O.at 0 rfl) rfl ?_
  refine J_iconst (v := 0) dX0_copyFrom_65 (by decide) ?_
  refine J_aload_n dX0_copyFrom_66 rfl rfl ?_
  refine J_getf dX0_copyFrom_67 fl_X0_25 (w6.at 0 rfl) rfl ?_
  refine J_iconst (v := 0) dX0_copyFrom_70 (by decide) ?_
  refine J_sipush (v := 144) dX0_copyFrom_71 (by decide) ?_
  refine J_copy (Or.inl rfl) dX0_copyFrom_74 ml_X0_65 na_copy sm_copy in_java_lang_System (w6O.at 3 rfl) (w6.at 3 rfl) (by decide) (by decide) (by decide) (by decide) (by decide) (fun h => nomatch h) ⟨by decide, by decide⟩ ?_
  refine J_gen (wF_a3 w6 _) (s6.put (by omega) (by omega) _) (fun A7 w7 s7 o7 => ?_)
  have w7O := w6O.o2 o7 (m := 9) rfl (by omega)
  refine J_aload_n dX0_copyFrom_77 rfl rfl ?_
  refine J_getf dX0_copyFrom_78 fl_X0_31 (w7O.at 0 rfl) rfl ?_
  refine J_iconst (v := 0) dX0_copyFrom_81 (by decide) ?_
  refine J_aload_n dX0_copyFrom_82 rfl rfl ?_
  refine J_getf dX0_copyFrom_83 fl_X0_31 (w7.at 0 rfl) rfl ?_
  refine J_iconst (v := 0) dX0_copyFrom_86 (by decide) ?_
  refine J_bipush (v := 6) dX0_copyFrom_87 (by decide) ?_
  refine J_copy (Or.inl rfl) dX0_copyFrom_89 ml_X0_65 na_copy sm_copy in_java_lang_System (w7O.at 4 rfl) (w7.at 4 rfl) (by decide) (by decide) (by decide) (by decide) (by decide) (fun h => nomatch h) ⟨by decide, by decide⟩ ?_
  refine J_gen (wF_a4 w7 _) (s7.put (by omega) (by omega) _) (fun A8 w8 s8 o8 => ?_)
  have w8O := w7O.o2 o8 (m := 9) rfl (by omega)
  refine J_aload_n dX0_copyFrom_92 rfl rfl ?_
  refine J_getf dX0_copyFrom_93 fl_X0_34 (w8O.at 0 rfl) rfl ?_
  refine J_iconst (v := 0) dX0_copyFrom_96 (by decide) ?_
  refine J_aload_n dX0_copyFrom_97 rfl rfl ?_
  refine J_getf dX0_copyFrom_98 fl_X0_34 (w8.at 0 rfl) rfl ?_
  refine J_iconst (v := 0) dX0_copyFrom_101 (by decide) ?_
  refine J_bipush (v := 6) dX0_copyFrom_102 (by decide) ?_
  refine J_copy (Or.inl rfl) dX0_copyFrom_104 ml_X0_65 na_copy sm_copy in_java_lang_System (w8O.at 5 rfl) (w8.at 5 rfl) (by decide) (by decide) (by decide) (by decide) (by decide) (fun h => nomatch h) ⟨by decide, by decide⟩ ?_
  refine J_gen (wF_a5 w8 _) (s8.put (by omega) (by omega) _) (fun A9 w9 s9 o9 => ?_)
  have w9O := w8O.o2 o9 (m := 9) rfl (by omega)
  refine J_aload_n dX0_copyFrom_107 rfl rfl ?_
  refine J_getf dX0_copyFrom_108 fl_X0_37 (w9O.at 0 rfl) rfl ?_
  refine J_iconst (v := 0) dX0_copyFrom_111 (by decide) ?_
  refine J_aload_n dX0_copyFrom_112 rfl rfl ?_
  refine J_getf dX0_copyFrom_113 fl_X0_37 (w9.at 0 rfl) rfl ?_
  refine J_iconst (v := 0) dX0_copyFrom_116 (by decide) ?_
  refine J_bipush (v := 6) dX0_copyFrom_117 (by decide) ?_
  refine J_copy (Or.inl rfl) dX0_copyFrom_119 ml_X0_65 na_copy sm_copy in_java_lang_System (w9O.at 6 rfl) (w9.at 6 rfl) (by decide) (by decide) (by decide) (by decide) (by decide) (fun h => nomatch h) ⟨by decide, by decide⟩ ?_
  refine J_gen (wF_a6 w9 _) (s9.put (by omega) (by omega) _) (fun A10 w10 s10 o10 => ?_)
  have w10O := w9O.o2 o10 (m := 9) rfl (by omega)
  refine J_return dX0_copyFrom_122 rfl (by decide) (by decide) ?_
  exact ⟨rfl, rfl, w10, s10⟩
end XPA
