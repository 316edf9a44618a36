/-! FIELD: its world and its methods -/
section XFD
abbrev xS : Type := (Nat → Int32) × (Nat → Nat → Int32)
abbrev s_up (F : xS) (i : Nat) (x : Int32) : xS := (va_up F.1 i x, F.2)
abbrev a_up (F : xS) (i : Nat) (x : Nat → Int32) : xS := (F.1, va_up F.2 i x)
/-- a Field at base b: wrestlers 0, rounds 1, bouts 5, resting 9; worth 1, counts 2, met 3, reds 4, blues 5, outcomes 6, order 7, metPoints 8 -/
def layF (b : Nat) (F : xS) : List (Nat × va_E) := [(0, .inr (0, [.int (F.1 0), .int (F.1 1), .ref (b + 1), .ref (b + 2), .ref (b + 3), .int (F.1 5), .ref (b + 4), .ref (b + 5), .ref (b + 6), .int (F.1 9), .ref (b + 7), .ref (b + 8)])),
  (1, .inl (0, 3, .inl (F.2 1))), (2, .inl (0, 120, .inl (F.2 2))), (3, .inl (0, 144, .inl (F.2 3))), (4, .inl (0, 6, .inl (F.2 4))), (5, .inl (0, 6, .inl (F.2 5))), (6, .inl (0, 6, .inl (F.2 6))), (7, .inl (0, 12, .inl (F.2 7))), (8, .inl (0, 12, .inl (F.2 8)))]
theorem wF_s0_0 {b : Nat} {F : xS} {A : xx_H} (h : xx_w b (layF b F) A) (x : Int32) : xx_w b (layF b (s_up F 0 x)) (xx_up A (b + 0) (.inr (0, [Value.int (F.1 0), .int (F.1 1), .ref (b + 1), .ref (b + 2), .ref (b + 3), .int (F.1 5), .ref (b + 4), .ref (b + 5), .ref (b + 6), .int (F.1 9), .ref (b + 7), .ref (b + 8)].set 0 (.int x)))) := h.put 0 _ rfl rfl
theorem wF_s0_1 {b : Nat} {F : xS} {A : xx_H} (h : xx_w b (layF b F) A) (x : Int32) : xx_w b (layF b (s_up F 1 x)) (xx_up A (b + 0) (.inr (0, [Value.int (F.1 0), .int (F.1 1), .ref (b + 1), .ref (b + 2), .ref (b + 3), .int (F.1 5), .ref (b + 4), .ref (b + 5), .ref (b + 6), .int (F.1 9), .ref (b + 7), .ref (b + 8)].set 1 (.int x)))) := h.put 0 _ rfl rfl
theorem wF_s0_5 {b : Nat} {F : xS} {A : xx_H} (h : xx_w b (layF b F) A) (x : Int32) : xx_w b (layF b (s_up F 5 x)) (xx_up A (b + 0) (.inr (0, [Value.int (F.1 0), .int (F.1 1), .ref (b + 1), .ref (b + 2), .ref (b + 3), .int (F.1 5), .ref (b + 4), .ref (b + 5), .ref (b + 6), .int (F.1 9), .ref (b + 7), .ref (b + 8)].set 5 (.int x)))) := h.put 0 _ rfl rfl
theorem wF_s0_9 {b : Nat} {F : xS} {A : xx_H} (h : xx_w b (layF b F) A) (x : Int32) : xx_w b (layF b (s_up F 9 x)) (xx_up A (b + 0) (.inr (0, [Value.int (F.1 0), .int (F.1 1), .ref (b + 1), .ref (b + 2), .ref (b + 3), .int (F.1 5), .ref (b + 4), .ref (b + 5), .ref (b + 6), .int (F.1 9), .ref (b + 7), .ref (b + 8)].set 9 (.int x)))) := h.put 0 _ rfl rfl
theorem wF_a1 {b : Nat} {F : xS} {A : xx_H} (h : xx_w b (layF b F) A) (f : Nat → Int32) : xx_w b (layF b (a_up F 1 f)) (xx_up A (b + 1) (.inl (0, 3, .inl f))) := h.put 1 _ rfl rfl
theorem wF_a2 {b : Nat} {F : xS} {A : xx_H} (h : xx_w b (layF b F) A) (f : Nat → Int32) : xx_w b (layF b (a_up F 2 f)) (xx_up A (b + 2) (.inl (0, 120, .inl f))) := h.put 2 _ rfl rfl
theorem wF_a3 {b : Nat} {F : xS} {A : xx_H} (h : xx_w b (layF b F) A) (f : Nat → Int32) : xx_w b (layF b (a_up F 3 f)) (xx_up A (b + 3) (.inl (0, 144, .inl f))) := h.put 3 _ rfl rfl
theorem wF_a4 {b : Nat} {F : xS} {A : xx_H} (h : xx_w b (layF b F) A) (f : Nat → Int32) : xx_w b (layF b (a_up F 4 f)) (xx_up A (b + 4) (.inl (0, 6, .inl f))) := h.put 4 _ rfl rfl
theorem wF_a5 {b : Nat} {F : xS} {A : xx_H} (h : xx_w b (layF b F) A) (f : Nat → Int32) : xx_w b (layF b (a_up F 5 f)) (xx_up A (b + 5) (.inl (0, 6, .inl f))) := h.put 5 _ rfl rfl
theorem wF_a6 {b : Nat} {F : xS} {A : xx_H} (h : xx_w b (layF b F) A) (f : Nat → Int32) : xx_w b (layF b (a_up F 6 f)) (xx_up A (b + 6) (.inl (0, 6, .inl f))) := h.put 6 _ rfl rfl
theorem wF_a7 {b : Nat} {F : xS} {A : xx_H} (h : xx_w b (layF b F) A) (f : Nat → Int32) : xx_w b (layF b (a_up F 7 f)) (xx_up A (b + 7) (.inl (0, 12, .inl f))) := h.put 7 _ rfl rfl
theorem wF_a8 {b : Nat} {F : xS} {A : xx_H} (h : xx_w b (layF b F) A) (f : Nat → Int32) : xx_w b (layF b (a_up F 8 f)) (xx_up A (b + 8) (.inl (0, 12, .inl f))) := h.put 8 _ rfl rfl
theorem wF_uu {b i : Nat} {F : xS} {f g : Nat → Int32} {A : xx_H} (h : xx_w b (layF b (a_up (a_up F i f) i g)) A) : xx_w b (layF b (a_up F i g)) A := by
  have e : a_up (a_up F i f) i g = a_up F i g := by unfold a_up; simp only [Prod.mk.injEq, true_and]; funext q; simp only [va_up]; split <;> rfl
  rw [e] at h
  exact h
variable {G : xx_G} {l : Launch} {b n : Nat} {A : xx_H} {F : xS}
theorem c_X0_hasWrestler (hst : l.stackTraces = false) (hF : xx_w b (layF b F) A) (w : Int32) : xx_C G l yX0_hasWrestler mX0_hasWrestler 0 0 0 0 [.ref b, .int w] A n (xx_ro (some (.int (xx_b (¬ w < 0 ∧ w < F.1 0)))) A n) := by
  refine J_C hst (by decide +kernel) rfl rfl rfl (Nat.le_of_ble_eq_true rfl) ?_
  show xx_J _ _ _ _ _ _ _ _ 0 [(0, _), (1, _)] [] _ _ _ _
  refine J_iload_n dX0_hasWrestler_0 rfl rfl ?_
  refine J_if_lt (tgt := 16) dX0_hasWrestler_1 rfl (fun h1 => ?_) (fun h1 => ?_)
  · refine J_iconst (v := 0) dX0_hasWrestler_16 (by decide) ?_
    refine J_ireturn dX0_hasWrestler_17 rfl rfl (by decide) (by decide) ?_
    exact ⟨by unfold xx_b; split <;> first | rfl | (exfalso; simp only [i_lt, i_le, i_eq, i_0, i_1, i_2, i_3, i_4, i_5, i_6, i_8, i_9, i_10, i_12, i_16, i_20, i_m1] at *; omega), rfl, rfl⟩
  · refine J_iload_n dX0_hasWrestler_4 rfl rfl ?_
    refine J_aload_n dX0_hasWrestler_5 rfl rfl ?_
    refine J_getf dX0_hasWrestler_6 fl_X0_9 (hF.at 0 rfl) rfl ?_
    refine J_icmp_ge (tgt := 16) dX0_hasWrestler_9 rfl (fun h9 => ?_) (fun h9 => ?_)
    · refine J_iconst (v := 0) dX0_hasWrestler_16 (by decide) ?_
      refine J_ireturn dX0_hasWrestler_17 rfl rfl (by decide) (by decide) ?_
      exact ⟨by unfold xx_b; split <;> first | rfl | (exfalso; simp only [i_lt, i_le, i_eq, i_0, i_1, i_2, i_3, i_4, i_5, i_6, i_8, i_9, i_10, i_12, i_16, i_20, i_m1] at *; omega), rfl, rfl⟩
    · refine J_iconst (v := 1) dX0_hasWrestler_12 (by decide) ?_
      refine J_goto (tgt := 17) dX0_hasWrestler_13 rfl ?_
      refine J_ireturn dX0_hasWrestler_17 rfl rfl (by decide) (by decide) ?_
      exact ⟨by unfold xx_b; split <;> first | rfl | (exfalso; simp only [i_lt, i_le, i_eq, i_0, i_1, i_2, i_3, i_4, i_5, i_6, i_8, i_9, i_10, i_12, i_16, i_20, i_m1] at *; omega), rfl, rfl⟩
theorem c_X0_hasBout (hst : l.stackTraces = false) (hF : xx_w b (layF b F) A) (w : Int32) : xx_C G l yX0_hasBout mX0_hasBout 0 0 0 0 [.ref b, .int w] A n (xx_ro (some (.int (xx_b (¬ w < 0 ∧ w < F.1 5)))) A n) := by
  refine J_C hst (by decide +kernel) rfl rfl rfl (Nat.le_of_ble_eq_true rfl) ?_
  show xx_J _ _ _ _ _ _ _ _ 0 [(0, _), (1, _)] [] _ _ _ _
  refine J_iload_n dX0_hasBout_0 rfl rfl ?_
  refine J_if_lt (tgt := 16) dX0_hasBout_1 rfl (fun h1 => ?_) (fun h1 => ?_)
  · refine J_iconst (v := 0) dX0_hasBout_16 (by decide) ?_
    refine J_ireturn dX0_hasBout_17 rfl rfl (by decide) (by decide) ?_
    exact ⟨by unfold xx_b; split <;> first | rfl | (exfalso; simp only [i_lt, i_le, i_eq, i_0, i_1, i_2, i_3, i_4, i_5, i_6, i_8, i_9, i_10, i_12, i_16, i_20, i_m1] at *; omega), rfl, rfl⟩
  · refine J_iload_n dX0_hasBout_4 rfl rfl ?_
    refine J_aload_n dX0_hasBout_5 rfl rfl ?_
    refine J_getf dX0_hasBout_6 fl_X0_28 (hF.at 0 rfl) rfl ?_
    refine J_icmp_ge (tgt := 16) dX0_hasBout_9 rfl (fun h9 => ?_) (fun h9 => ?_)
    · refine J_iconst (v := 0) dX0_hasBout_16 (by decide) ?_
      refine J_ireturn dX0_hasBout_17 rfl rfl (by decide) (by decide) ?_
      exact ⟨by unfold xx_b; split <;> first | rfl | (exfalso; simp only [i_lt, i_le, i_eq, i_0, i_1, i_2, i_3, i_4, i_5, i_6, i_8, i_9, i_10, i_12, i_16, i_20, i_m1] at *; omega), rfl, rfl⟩
    · refine J_iconst (v := 1) dX0_hasBout_12 (by decide) ?_
      refine J_goto (tgt := 17) dX0_hasBout_13 rfl ?_
      refine J_ireturn dX0_hasBout_17 rfl rfl (by decide) (by decide) ?_
      exact ⟨by unfold xx_b; split <;> first | rfl | (exfalso; simp only [i_lt, i_le, i_eq, i_0, i_1, i_2, i_3, i_4, i_5, i_6, i_8, i_9, i_10, i_12, i_16, i_20, i_m1] at *; omega), rfl, rfl⟩
theorem b_in {x : Int32} {m i : Nat} (hm : x = nI m) (h12 : m ≤ 12) (hi : i < m) : ¬ nI i < 0 ∧ nI i < x := by
  rw [hm]
  exact ⟨nI_pos (by omega), nI_lt hi (by omega)⟩
theorem c_X0_hasCount (hst : l.stackTraces = false) (hF : xx_w b (layF b F) A) {nw : Nat} (hn : F.1 0 = nI nw) (h12 : nw ≤ 12) {c w : Int32} {q i : Nat} (hc : c = nI q) (hq : q < 10) (hw : w = nI i) (hi : i < nw) : xx_C G l yX0_hasCount mX0_hasCount 0 0 0 0 [.ref b, .int c, .int w] A n (xx_ro (some (.int 1)) A n) := by
  subst hc hw
  have en : (F.1 0).toInt = nw := by rw [hn]; exact i_n (by omega)
  have eq : (nI q).toInt = q := i_n (by omega)
  have ei : (nI i).toInt = i := i_n (by omega)
  refine J_C hst (by decide +kernel) rfl rfl rfl (Nat.le_of_ble_eq_true rfl) ?_
  show xx_J _ _ _ _ _ _ _ _ 0 [(0, _), (1, _), (2, _)] [] _ _ _ _
  refine J_iload_n dX0_hasCount_0 rfl rfl ?_
  refine J_if_lt (tgt := 26) dX0_hasCount_1 rfl (fun h1 => ?_) (fun h1 => ?_)
  · exfalso; simp only [i_lt, i_le, i_eq, i_0, i_1, i_2, i_3, i_4, i_5, i_6, i_8, i_9, i_10, i_12, i_16, i_20, i_m1] at h1; omega
  · refine J_iload_n dX0_hasCount_4 rfl rfl ?_
    refine J_bipush (v := 10) dX0_hasCount_5 (by decide) ?_
    refine J_icmp_ge (tgt := 26) dX0_hasCount_7 rfl (fun h7 => ?_) (fun h7 => ?_)
    · exfalso; simp only [i_lt, i_le, i_eq, i_0, i_1, i_2, i_3, i_4, i_5, i_6, i_8, i_9, i_10, i_12, i_16, i_20, i_m1] at h7; omega
    · refine J_iload_n dX0_hasCount_10 rfl rfl ?_
      refine J_if_lt (tgt := 26) dX0_hasCount_11 rfl (fun h11 => ?_) (fun h11 => ?_)
      · exfalso; simp only [i_lt, i_le, i_eq, i_0, i_1, i_2, i_3, i_4, i_5, i_6, i_8, i_9, i_10, i_12, i_16, i_20, i_m1] at h11; omega
      · refine J_iload_n dX0_hasCount_14 rfl rfl ?_
        refine J_aload_n dX0_hasCount_15 rfl rfl ?_
        refine J_getf dX0_hasCount_16 fl_X0_9 (hF.at 0 rfl) rfl ?_
        refine J_icmp_ge (tgt := 26) dX0_hasCount_19 rfl (fun h19 => ?_) (fun h19 => ?_)
        · exfalso; simp only [i_lt, i_le, i_eq, i_0, i_1, i_2, i_3, i_4, i_5, i_6, i_8, i_9, i_10, i_12, i_16, i_20, i_m1] at h19; omega
        · refine J_iconst (v := 1) dX0_hasCount_22 (by decide) ?_
          refine J_goto (tgt := 27) dX0_hasCount_23 rfl ?_
          refine J_ireturn dX0_hasCount_27 rfl rfl (by decide) (by decide) ?_
          exact ⟨rfl, rfl, rfl⟩
theorem c_X0_of (hst : l.stackTraces = false) (hF : xx_w b (layF b F) A) {nw : Nat} (hn : F.1 0 = nI nw) (h12 : nw ≤ 12) {c w : Int32} {q i : Nat} (hc : c = nI q) (hq : q < 10) (hw : w = nI i) (hi : i < nw) : xx_C G l yX0_of mX0_of 1 22 0 0 [.ref b, .int c, .int w] A n (xx_ro (some (.int (F.2 2 (q * 12 + i)))) A n) := by
  subst hc hw
  refine J_C hst (by decide +kernel) rfl rfl rfl (Nat.le_of_ble_eq_true rfl) ?_
  show xx_J _ _ _ _ _ _ _ _ 0 [(0, _), (1, _), (2, _)] [] _ _ _ _
  refine J_aload_n dX0_of_0 rfl rfl ?_
  refine J_iload_n dX0_of_1 rfl rfl ?_
  refine J_iload_n dX0_of_2 rfl rfl ?_
  refine J_callVr (As := [_, _]) dX0_of_3 ml_X0_71 cal_X0_hasCount im_X0_hasCount se_X0_hasCount (hF.at 0 rfl) rfl rfl rfl (Nat.le_of_ble_eq_true rfl) ⟨by decide, by decide⟩ ⟨by decide, by decide⟩ (c_X0_hasCount hst hF hn h12 rfl hq rfl hi) ?_
  refine J_if_eq (tgt := 23) dX0_of_6 rfl (fun h6 => ?_) (fun h6 => ?_)
  · exact absurd h6 (by decide)
  · refine J_aload_n dX0_of_9 rfl rfl ?_
    refine J_getf dX0_of_10 fl_X0_22 (hF.at 0 rfl) rfl ?_
    refine J_iload_n dX0_of_13 rfl rfl ?_
    refine J_bipush (v := 12) dX0_of_14 (by decide) ?_
    refine J_imul dX0_of_16 ?_
    refine J_iload_n dX0_of_17 rfl rfl ?_
    refine J_iadd dX0_of_18 ?_
    refine J_ialdN (q * 12 + i) dX0_of_19 (hF.at 2 rfl) (ix12 q i) (by omega) (by decide) ?_
    refine J_goto (tgt := 24) dX0_of_20 rfl ?_
    refine J_ireturn dX0_of_24 rfl rfl (by decide) (by decide) ?_
    exact ⟨rfl, rfl, rfl⟩
theorem c_X0_set (hst : l.stackTraces = false) (hF : xx_w b (layF b F) A) {nw : Nat} (hn : F.1 0 = nI nw) (h12 : nw ≤ 12) {c w : Int32} {q i : Nat} (hc : c = nI q) (hq : q < 10) (hw : w = nI i) (hi : i < nw) (v : Int32) : xx_C G l yX0_set mX0_set 1 22 0 0 [.ref b, .int c, .int w, .int v] A n (xx_wr none n (fun A' => xx_w b (layF b (a_up F 2 (upd (F.2 2) (q * 12 + i) v))) A' ∧ xx_same b (b + 9) A A')) := by
  subst hc hw
  refine J_C hst (by decide +kernel) rfl rfl rfl (Nat.le_of_ble_eq_true rfl) ?_
  show xx_J _ _ _ _ _ _ _ _ 0 [(0, _), (1, _), (2, _), (3, _)] [] _ _ _ _
  refine J_aload_n dX0_set_0 rfl rfl ?_
  refine J_iload_n dX0_set_1 rfl rfl ?_
  refine J_iload_n dX0_set_2 rfl rfl ?_
  refine J_callVr (As := [_, _]) dX0_set_3 ml_X0_71 cal_X0_hasCount im_X0_hasCount se_X0_hasCount (hF.at 0 rfl) rfl rfl rfl (Nat.le_of_ble_eq_true rfl) ⟨by decide, by decide⟩ ⟨by decide, by decide⟩ (c_X0_hasCount hst hF hn h12 rfl hq rfl hi) ?_
  refine J_if_eq (tgt := 21) dX0_set_6 rfl (fun h6 => ?_) (fun h6 => ?_)
  · exact absurd h6 (by decide)
  · refine J_aload_n dX0_set_9 rfl rfl ?_
    refine J_getf dX0_set_10 fl_X0_22 (hF.at 0 rfl) rfl ?_
    refine J_iload_n dX0_set_13 rfl rfl ?_
    refine J_bipush (v := 12) dX0_set_14 (by decide) ?_
    refine J_imul dX0_set_16 ?_
    refine J_iload_n dX0_set_17 rfl rfl ?_
    refine J_iadd dX0_set_18 ?_
    refine J_iload_n dX0_set_19 rfl rfl ?_
    refine J_iastN (q * 12 + i) dX0_set_20 (hF.at 2 rfl) (ix12 q i) (by omega) (by decide) ?_
    refine J_gen (wF_a2 hF _) ((xx_same.rf (b := b) (e := b + 9)).put (by omega) (by omega) _) (fun A1 w1 s1 o1 => ?_)
    refine J_return dX0_set_21 rfl (by decide) (by decide) ?_
    exact ⟨rfl, rfl, w1, s1⟩
theorem c_X0_add (hst : l.stackTraces = false) (hF : xx_w b (layF b F) A) {nw : Nat} (hn : F.1 0 = nI nw) (h12 : nw ≤ 12) {c w : Int32} {q i : Nat} (hc : c = nI q) (hq : q < 10) (hw : w = nI i) (hi : i < nw) (v : Int32) : xx_C G l yX0_add mX0_add 2 45 0 0 [.ref b, .int c, .int w, .int v] A n (xx_wr none n (fun A' => xx_w b (layF b (a_up F 2 (upd (F.2 2) (q * 12 + i) (F.2 2 (q * 12 + i) + v)))) A' ∧ xx_same b (b + 9) A A')) := by
  refine J_C hst (by decide +kernel) rfl rfl rfl (Nat.le_of_ble_eq_true rfl) ?_
  show xx_J _ _ _ _ _ _ _ _ 0 [(0, _), (1, _), (2, _), (3, _)] [] _ _ _ _
  refine J_aload_n dX0_add_0 rfl rfl ?_
  refine J_iload_n dX0_add_1 rfl rfl ?_
  refine J_iload_n dX0_add_2 rfl rfl ?_
  refine J_aload_n dX0_add_3 rfl rfl ?_
  refine J_iload_n dX0_add_4 rfl rfl ?_
  refine J_iload_n dX0_add_5 rfl rfl ?_
  refine J_callVr (As := [_, _]) dX0_add_6 ml_X0_75 cal_X0_of im_X0_of se_X0_of (hF.at 0 rfl) rfl rfl rfl (Nat.le_of_ble_eq_true rfl) ⟨by decide, by decide⟩ ⟨by decide, by decide⟩ (c_X0_of hst hF hn h12 hc hq hw hi) ?_
  refine J_iload_n dX0_add_9 rfl rfl ?_
  refine J_iadd dX0_add_10 ?_
  refine J_callVw (As := [_, _, _]) dX0_add_11 ml_X0_61 cal_X0_set im_X0_set se_X0_set (hF.at 0 rfl) rfl rfl rfl (Nat.le_of_ble_eq_true rfl) ⟨by decide, by decide⟩ ⟨by decide, by decide⟩ (c_X0_set hst hF hn h12 hc hq hw hi _) (fun A1 hQ1 => ?_)
  skip
  refine J_return dX0_add_14 rfl (by decide) (by decide) ?_
  exact ⟨rfl, rfl, hQ1.1, hQ1.2⟩
theorem c_X0_meetings (hst : l.stackTraces = false) (hF : xx_w b (layF b F) A) {nw : Nat} (hn : F.1 0 = nI nw) (h12 : nw ≤ 12) {i j : Nat} {x y : Int32} (hx : x = nI i) (hi : i < nw) (hy : y = nI j) (hj : j < nw) : xx_C G l yX0_meetings mX0_meetings 1 21 0 0 [.ref b, .int x, .int y] A n (xx_ro (some (.int (F.2 3 (i * 12 + j)))) A n) := by
  subst hx hy
  refine J_C hst (by decide +kernel) rfl rfl rfl (Nat.le_of_ble_eq_true rfl) ?_
  show xx_J _ _ _ _ _ _ _ _ 0 [(0, _), (1, _), (2, _)] [] _ _ _ _
  refine J_aload_n dX0_meetings_0 rfl rfl ?_
  refine J_iload_n dX0_meetings_1 rfl rfl ?_
  refine J_callVr (As := [_]) dX0_meetings_2 ml_X0_78 cal_X0_hasWrestler im_X0_hasWrestler se_X0_hasWrestler (hF.at 0 rfl) rfl rfl rfl (Nat.le_of_ble_eq_true rfl) ⟨by decide, by decide⟩ ⟨by decide, by decide⟩ (c_X0_hasWrestler hst hF _) ?_
  refine J_ifb_eq (tgt := 30) dX0_meetings_5 rfl (fun h5 => ?_) (fun h5 => ?_)
  · exact absurd (b_in hn h12 hi) h5
  · refine J_aload_n dX0_meetings_8 rfl rfl ?_
    refine J_iload_n dX0_meetings_9 rfl rfl ?_
    refine J_callVr (As := [_]) dX0_meetings_10 ml_X0_78 cal_X0_hasWrestler im_X0_hasWrestler se_X0_hasWrestler (hF.at 0 rfl) rfl rfl rfl (Nat.le_of_ble_eq_true rfl) ⟨by decide, by decide⟩ ⟨by decide, by decide⟩ (c_X0_hasWrestler hst hF _) ?_
    refine J_ifb_eq (tgt := 30) dX0_meetings_13 rfl (fun h13 => ?_) (fun h13 => ?_)
    · exact absurd (b_in hn h12 hj) h13
    · refine J_aload_n dX0_meetings_16 rfl rfl ?_
      refine J_getf dX0_meetings_17 fl_X0_25 (hF.at 0 rfl) rfl ?_
      refine J_iload_n dX0_meetings_20 rfl rfl ?_
      refine J_bipush (v := 12) dX0_meetings_21 (by decide) ?_
      refine J_imul dX0_meetings_23 ?_
      refine J_iload_n dX0_meetings_24 rfl rfl ?_
      refine J_iadd dX0_meetings_25 ?_
      refine J_ialdN (i * 12 + j) dX0_meetings_26 (hF.at 3 rfl) (ix12 i j) (by omega) (by decide) ?_
      refine J_goto (tgt := 31) dX0_meetings_27 rfl ?_
      refine J_ireturn dX0_meetings_31 rfl rfl (by decide) (by decide) ?_
      exact ⟨rfl, rfl, rfl⟩
/-- one more meeting of i and j -/
def m_up (f : Nat → Int32) (i j : Nat) : Nat → Int32 := upd (upd f (i * 12 + j) (f (i * 12 + j) + 1)) (j * 12 + i) (upd f (i * 12 + j) (f (i * 12 + j) + 1) (j * 12 + i) + 1)
theorem c_X0_addMeeting (hst : l.stackTraces = false) (hF : xx_w b (layF b F) A) {nw : Nat} (hn : F.1 0 = nI nw) (h12 : nw ≤ 12) {i j : Nat} {x y : Int32} (hx : x = nI i) (hi : i < nw) (hy : y = nI j) (hj : j < nw) : xx_C G l yX0_addMeeting mX0_addMeeting 1 21 0 0 [.ref b, .int x, .int y] A n (xx_wr none n (fun A' => xx_w b (layF b (a_up F 3 (m_up (F.2 3) i j))) A' ∧ xx_same b (b + 9) A A')) := by
  subst hx hy
  refine J_C hst (by decide +kernel) rfl rfl rfl (Nat.le_of_ble_eq_true rfl) ?_
  show xx_J _ _ _ _ _ _ _ _ 0 [(0, _), (1, _), (2, _)] [] _ _ _ _
  refine J_aload_n dX0_addMeeting_0 rfl rfl ?_
  refine J_iload_n dX0_addMeeting_1 rfl rfl ?_
  refine J_callVr (As := [_]) dX0_addMeeting_2 ml_X0_78 cal_X0_hasWrestler im_X0_hasWrestler se_X0_hasWrestler (hF.at 0 rfl) rfl rfl rfl (Nat.le_of_ble_eq_true rfl) ⟨by decide, by decide⟩ ⟨by decide, by decide⟩ (c_X0_hasWrestler hst hF _) ?_
  refine J_ifb_eq (tgt := 46) dX0_addMeeting_5 rfl (fun h5 => ?_) (fun h5 => ?_)
  · exact absurd (b_in hn h12 hi) h5
  · refine J_aload_n dX0_addMeeting_8 rfl rfl ?_
    refine J_iload_n dX0_addMeeting_9 rfl rfl ?_
    refine J_callVr (As := [_]) dX0_addMeeting_10 ml_X0_78 cal_X0_hasWrestler im_X0_hasWrestler se_X0_hasWrestler (hF.at 0 rfl) rfl rfl rfl (Nat.le_of_ble_eq_true rfl) ⟨by decide, by decide⟩ ⟨by decide, by decide⟩ (c_X0_hasWrestler hst hF _) ?_
    refine J_ifb_eq (tgt := 46) dX0_addMeeting_13 rfl (fun h13 => ?_) (fun h13 => ?_)
    · exact absurd (b_in hn h12 hj) h13
    · refine J_aload_n dX0_addMeeting_16 rfl rfl ?_
      refine J_getf dX0_addMeeting_17 fl_X0_25 (hF.at 0 rfl) rfl ?_
      refine J_iload_n dX0_addMeeting_20 rfl rfl ?_
      refine J_bipush (v := 12) dX0_addMeeting_21 (by decide) ?_
      refine J_imul dX0_addMeeting_23 ?_
      refine J_iload_n dX0_addMeeting_24 rfl rfl ?_
      refine J_iadd dX0_addMeeting_25 ?_
      refine J_dup2 dX0_addMeeting_26 rfl rfl ?_
      refine J_ialdN (i * 12 + j) dX0_addMeeting_27 (hF.at 3 rfl) (ix12 i j) (by omega) (by decide) ?_
      refine J_iconst (v := 1) dX0_addMeeting_28 (by decide) ?_
      refine J_iadd dX0_addMeeting_29 ?_
      refine J_iastN (i * 12 + j) dX0_addMeeting_30 (hF.at 3 rfl) (ix12 i j) (by omega) (by decide) ?_
      refine J_gen (wF_a3 hF _) ((xx_same.rf (b := b) (e := b + 9)).put (by omega) (by omega) _) (fun A1 w1 s1 o1 => ?_)
      refine J_aload_n dX0_addMeeting_31 rfl rfl ?_
      refine J_getf dX0_addMeeting_32 fl_X0_25 (w1.at 0 rfl) rfl ?_
      refine J_iload_n dX0_addMeeting_35 rfl rfl ?_
      refine J_bipush (v := 12) dX0_addMeeting_36 (by decide) ?_
      refine J_imul dX0_addMeeting_38 ?_
      refine J_iload_n dX0_addMeeting_39 rfl rfl ?_
      refine J_iadd dX0_addMeeting_40 ?_
      refine J_dup2 dX0_addMeeting_41 rfl rfl ?_
      refine J_ialdN (j * 12 + i) dX0_addMeeting_42 (w1.at 3 rfl) (ix12 j i) (by omega) (by decide) ?_
      refine J_iconst (v := 1) dX0_addMeeting_43 (by decide) ?_
      refine J_iadd dX0_addMeeting_44 ?_
      refine J_iastN (j * 12 + i) dX0_addMeeting_45 (w1.at 3 rfl) (ix12 j i) (by omega) (by decide) ?_
      refine J_gen (wF_a3 w1 _) (s1.put (by omega) (by omega) _) (fun A2 w2 s2 o2 => ?_)
      refine J_return dX0_addMeeting_46 rfl (by decide) (by decide) ?_
      exact ⟨rfl, rfl, w2, s2⟩
theorem b_in6 {x : Int32} {m i : Nat} (hm : x = nI m) (h12 : m ≤ 6) (hi : i < m) : ¬ nI i < 0 ∧ nI i < x := b_in hm (by omega) hi
theorem c_X0_redIn (hst : l.stackTraces = false) (hF : xx_w b (layF b F) A) {nb : Nat} (hb : F.1 5 = nI nb) (h6 : nb ≤ 6) {i : Nat} {x : Int32} (hx : x = nI i) (hi : i < nb) : xx_C G l yX0_redIn mX0_redIn 1 21 0 0 [.ref b, .int x] A n (xx_ro (some (.int (F.2 4 i))) A n) := by
  subst hx
  refine J_C hst (by decide +kernel) rfl rfl rfl (Nat.le_of_ble_eq_true rfl) ?_
  show xx_J _ _ _ _ _ _ _ _ 0 [(0, _), (1, _)] [] _ _ _ _
  refine J_aload_n dX0_redIn_0 rfl rfl ?_
  refine J_iload_n dX0_redIn_1 rfl rfl ?_
  refine J_callVr (As := [_]) dX0_redIn_2 ml_X0_82 cal_X0_hasBout im_X0_hasBout se_X0_hasBout (hF.at 0 rfl) rfl rfl rfl (Nat.le_of_ble_eq_true rfl) ⟨by decide, by decide⟩ ⟨by decide, by decide⟩ (c_X0_hasBout hst hF _) ?_
  refine J_ifb_eq (tgt := 17) dX0_redIn_5 rfl (fun h5 => ?_) (fun h5 => ?_)
  · exact absurd (b_in6 hb h6 hi) h5
  · refine J_aload_n dX0_redIn_8 rfl rfl ?_
    refine J_getf dX0_redIn_9 fl_X0_31 (hF.at 0 rfl) rfl ?_
    refine J_iload_n dX0_redIn_12 rfl rfl ?_
    refine J_ialdN i dX0_redIn_13 (hF.at 4 rfl) rfl (by omega) (by decide) ?_
    refine J_goto (tgt := 18) dX0_redIn_14 rfl ?_
    refine J_ireturn dX0_redIn_18 rfl rfl (by decide) (by decide) ?_
    exact ⟨rfl, rfl, rfl⟩
theorem c_X0_blueIn (hst : l.stackTraces = false) (hF : xx_w b (layF b F) A) {nb : Nat} (hb : F.1 5 = nI nb) (h6 : nb ≤ 6) {i : Nat} {x : Int32} (hx : x = nI i) (hi : i < nb) : xx_C G l yX0_blueIn mX0_blueIn 1 21 0 0 [.ref b, .int x] A n (xx_ro (some (.int (F.2 5 i))) A n) := by
  subst hx
  refine J_C hst (by decide +kernel) rfl rfl rfl (Nat.le_of_ble_eq_true rfl) ?_
  show xx_J _ _ _ _ _ _ _ _ 0 [(0, _), (1, _)] [] _ _ _ _
  refine J_aload_n dX0_blueIn_0 rfl rfl ?_
  refine J_iload_n dX0_blueIn_1 rfl rfl ?_
  refine J_callVr (As := [_]) dX0_blueIn_2 ml_X0_82 cal_X0_hasBout im_X0_hasBout se_X0_hasBout (hF.at 0 rfl) rfl rfl rfl (Nat.le_of_ble_eq_true rfl) ⟨by decide, by decide⟩ ⟨by decide, by decide⟩ (c_X0_hasBout hst hF _) ?_
  refine J_ifb_eq (tgt := 17) dX0_blueIn_5 rfl (fun h5 => ?_) (fun h5 => ?_)
  · exact absurd (b_in6 hb h6 hi) h5
  · refine J_aload_n dX0_blueIn_8 rfl rfl ?_
    refine J_getf dX0_blueIn_9 fl_X0_34 (hF.at 0 rfl) rfl ?_
    refine J_iload_n dX0_blueIn_12 rfl rfl ?_
    refine J_ialdN i dX0_blueIn_13 (hF.at 5 rfl) rfl (by omega) (by decide) ?_
    refine J_goto (tgt := 18) dX0_blueIn_14 rfl ?_
    refine J_ireturn dX0_blueIn_18 rfl rfl (by decide) (by decide) ?_
    exact ⟨rfl, rfl, rfl⟩
theorem c_X0_outcomeIn (hst : l.stackTraces = false) (hF : xx_w b (layF b F) A) {nb : Nat} (hb : F.1 5 = nI nb) (h6 : nb ≤ 6) {i : Nat} {x : Int32} (hx : x = nI i) (hi : i < nb) : xx_C G l yX0_outcomeIn mX0_outcomeIn 1 21 0 0 [.ref b, .int x] A n (xx_ro (some (.int (F.2 6 i))) A n) := by
  subst hx
  refine J_C hst (by decide +kernel) rfl rfl rfl (Nat.le_of_ble_eq_true rfl) ?_
  show xx_J _ _ _ _ _ _ _ _ 0 [(0, _), (1, _)] [] _ _ _ _
  refine J_aload_n dX0_outcomeIn_0 rfl rfl ?_
  refine J_iload_n dX0_outcomeIn_1 rfl rfl ?_
  refine J_callVr (As := [_]) dX0_outcomeIn_2 ml_X0_82 cal_X0_hasBout im_X0_hasBout se_X0_hasBout (hF.at 0 rfl) rfl rfl rfl (Nat.le_of_ble_eq_true rfl) ⟨by decide, by decide⟩ ⟨by decide, by decide⟩ (c_X0_hasBout hst hF _) ?_
  refine J_ifb_eq (tgt := 17) dX0_outcomeIn_5 rfl (fun h5 => ?_) (fun h5 => ?_)
  · exact absurd (b_in6 hb h6 hi) h5
  · refine J_aload_n dX0_outcomeIn_8 rfl rfl ?_
    refine J_getf dX0_outcomeIn_9 fl_X0_37 (hF.at 0 rfl) rfl ?_
    refine J_iload_n dX0_outcomeIn_12 rfl rfl ?_
    refine J_ialdN i dX0_outcomeIn_13 (hF.at 6 rfl) rfl (by omega) (by decide) ?_
    refine J_goto (tgt := 18) dX0_outcomeIn_14 rfl ?_
    refine J_ireturn dX0_outcomeIn_18 rfl rfl (by decide) (by decide) ?_
    exact ⟨rfl, rfl, rfl⟩
theorem c_X0_countIn (hst : l.stackTraces = false) (hF : xx_w b (layF b F) A) {nw : Nat} (hn : F.1 0 = nI nw) (h12 : nw ≤ 12) : xx_C G l yX0_countIn mX0_countIn 2 44 0 0 [.ref b] A n (xx_ro (some (.int (bx_sum (fun w => F.2 2 (8 * 12 + w)) nw))) A n) := by
  refine J_C hst (by decide +kernel) rfl rfl rfl (Nat.le_of_ble_eq_true rfl) ?_
  show xx_J _ _ _ _ _ _ _ _ 0 [(0, _)] [] _ _ _ _
  refine J_iconst (v := 0) dX0_countIn_0 (by decide) ?_
  refine J_istore_n (L' := [(1, _), (0, _)]) dX0_countIn_1 rfl (by decide) rfl ?_
  refine J_iconst (v := 0) dX0_countIn_2 (by decide) ?_
  refine J_istore_n (L' := [(2, _), (1, _), (0, _)]) dX0_countIn_3 rfl (by decide) rfl ?_
  have loop : ∀ i, i ≤ nw → ∀ (x acc : Int32) , (x = nI i) → (acc = bx_sum (fun w => F.2 2 (8 * 12 + w)) i) → xx_J G l mX0_countIn 2 44 0 0 (xx_ro (some (.int (bx_sum (fun w => F.2 2 (8 * 12 + w)) nw))) A n) 4 [(2, .int x), (1, .int acc), (0, .ref b)] [] A n 0 0 := by
    refine xx_dn ?_ ?_
    · intro x acc   hx hacc
      have en : (F.1 0).toInt = nw := by rw [hn]; exact i_n (by omega)
      have ex : x.toInt = nw := by rw [hx]; exact i_n (by omega)
      refine J_iload_n dX0_countIn_4 rfl rfl ?_
      refine J_aload_n dX0_countIn_5 rfl rfl ?_
      refine J_getf dX0_countIn_6 fl_X0_9 (hF.at 0 rfl) rfl ?_
      refine J_icmp_ge (tgt := 28) dX0_countIn_9 rfl (fun h9 => ?_) (fun h9 => ?_)
      · refine J_iload_n dX0_countIn_28 rfl rfl ?_
        refine J_ireturn dX0_countIn_29 rfl rfl (by decide) (by decide) ?_
        exact ⟨by rw [hacc], rfl, rfl⟩
      · exfalso; simp only [i_lt, i_le, i_eq, i_0, i_1, i_2, i_3, i_4, i_5, i_6, i_8, i_9, i_10, i_12, i_16, i_20, i_m1] at h9; omega
    · intro i hii ih x acc   hx hacc
      have en : (F.1 0).toInt = nw := by rw [hn]; exact i_n (by omega)
      have ex : x.toInt = i := by rw [hx]; exact i_n (by omega)
      refine J_iload_n dX0_countIn_4 rfl rfl ?_
      refine J_aload_n dX0_countIn_5 rfl rfl ?_
      refine J_getf dX0_countIn_6 fl_X0_9 (hF.at 0 rfl) rfl ?_
      refine J_icmp_ge (tgt := 28) dX0_countIn_9 rfl (fun h9 => ?_) (fun h9 => ?_)
      · exfalso; simp only [i_lt, i_le, i_eq, i_0, i_1, i_2, i_3, i_4, i_5, i_6, i_8, i_9, i_10, i_12, i_16, i_20, i_m1] at h9; omega
      · refine J_iload_n dX0_countIn_12 rfl rfl ?_
        refine J_aload_n dX0_countIn_13 rfl rfl ?_
        refine J_bipush (v := 8) dX0_countIn_14 (by decide) ?_
        refine J_iload_n dX0_countIn_16 rfl rfl ?_
        refine J_callVr (As := [_, _]) dX0_countIn_17 ml_X0_75 cal_X0_of im_X0_of se_X0_of (hF.at 0 rfl) rfl rfl rfl (Nat.le_of_ble_eq_true rfl) ⟨by decide, by decide⟩ ⟨by decide, by decide⟩ (c_X0_of (q := 8) hst hF hn h12 rfl (by decide) hx hii) ?_
        refine J_iadd dX0_countIn_20 ?_
        refine J_istore_n (L' := [(1, _), (2, _), (0, _)]) dX0_countIn_21 rfl (by decide) rfl ?_
        refine J_iinc (v := _ + 1) (L' := [(2, _), (1, _), (0, _)]) dX0_countIn_22 rfl rfl (by decide) rfl ?_
        refine J_goto (tgt := 4) dX0_countIn_25 rfl ?_
        refine xx_J.pick [0, 1, 2] rfl ?_
        exact ih _ _  (by rw [hx]; exact nI_1 i) (by rw [hacc]; rfl)
  refine xx_J.pick [0, 1, 2] rfl ?_
  exact loop 0 (by omega) _ _  rfl rfl
/-- an open bout counts 1 -/
def opn (f : Nat → Int32) : Nat → Int32 := fun q => if f q = -1 then 1 else 0
def rivAt (red blue : Nat → Int32) (w : Int32) : Nat → Nat → Int32
  | 0, _ => -1
  | d + 1, i => if red i = w then blue i else if blue i = w then red i else rivAt red blue w d (i + 1)
theorem rivAt_s {red blue : Nat → Int32} {w : Int32} {e i : Nat} (h : i < e) : rivAt red blue w (e - i) i = if red i = w then blue i else if blue i = w then red i else rivAt red blue w (e - (i + 1)) (i + 1) := by
  rw [show e - i = (e - (i + 1)) + 1 by omega]
  rfl
theorem c_X0_countOpen (hst : l.stackTraces = false) (hF : xx_w b (layF b F) A) {nb : Nat} (hb : F.1 5 = nI nb) (h6 : nb ≤ 6) : xx_C G l yX0_countOpen mX0_countOpen 2 42 0 0 [.ref b] A n (xx_ro (some (.int (bx_sum (opn (F.2 6)) nb))) A n) := by
  refine J_C hst (by decide +kernel) rfl rfl rfl (Nat.le_of_ble_eq_true rfl) ?_
  show xx_J _ _ _ _ _ _ _ _ 0 [(0, _)] [] _ _ _ _
  refine J_iconst (v := 0) dX0_countOpen_0 (by decide) ?_
  refine J_istore_n (L' := [(1, _), (0, _)]) dX0_countOpen_1 rfl (by decide) rfl ?_
  refine J_iconst (v := 0) dX0_countOpen_2 (by decide) ?_
  refine J_istore_n (L' := [(2, _), (1, _), (0, _)]) dX0_countOpen_3 rfl (by decide) rfl ?_
  have loop : ∀ i, i ≤ nb → ∀ (x acc : Int32) , (x = nI i) → (acc = bx_sum (opn (F.2 6)) i) → xx_J G l mX0_countOpen 2 42 0 0 (xx_ro (some (.int (bx_sum (opn (F.2 6)) nb))) A n) 4 [(2, .int x), (1, .int acc), (0, .ref b)] [] A n 0 0 := by
    refine xx_dn ?_ ?_
    · intro x acc   hx hacc
      have eb : (F.1 5).toInt = nb := by rw [hb]; exact i_n (by omega)
      have ex : x.toInt = nb := by rw [hx]; exact i_n (by omega)
      refine J_iload_n dX0_countOpen_4 rfl rfl ?_
      refine J_aload_n dX0_countOpen_5 rfl rfl ?_
      refine J_getf dX0_countOpen_6 fl_X0_28 (hF.at 0 rfl) rfl ?_
      refine J_icmp_ge (tgt := 35) dX0_countOpen_9 rfl (fun h9 => ?_) (fun h9 => ?_)
      · refine J_iload_n dX0_countOpen_35 rfl rfl ?_
        refine J_ireturn dX0_countOpen_36 rfl rfl (by decide) (by decide) ?_
        exact ⟨by rw [hacc], rfl, rfl⟩
      · exfalso; simp only [i_lt, i_le, i_eq, i_0, i_1, i_2, i_3, i_4, i_5, i_6, i_8, i_9, i_10, i_12, i_16, i_20, i_m1] at h9; omega
    · intro i hii ih x acc   hx hacc
      have eb : (F.1 5).toInt = nb := by rw [hb]; exact i_n (by omega)
      have ex : x.toInt = i := by rw [hx]; exact i_n (by omega)
      refine J_iload_n dX0_countOpen_4 rfl rfl ?_
      refine J_aload_n dX0_countOpen_5 rfl rfl ?_
      refine J_getf dX0_countOpen_6 fl_X0_28 (hF.at 0 rfl) rfl ?_
      refine J_icmp_ge (tgt := 35) dX0_countOpen_9 rfl (fun h9 => ?_) (fun h9 => ?_)
      · exfalso; simp only [i_lt, i_le, i_eq, i_0, i_1, i_2, i_3, i_4, i_5, i_6, i_8, i_9, i_10, i_12, i_16, i_20, i_m1] at h9; omega
      · refine J_iload_n dX0_countOpen_12 rfl rfl ?_
        refine J_aload_n dX0_countOpen_13 rfl rfl ?_
        refine J_iload_n dX0_countOpen_14 rfl rfl ?_
        refine J_callVr (As := [_]) dX0_countOpen_15 ml_X0_85 cal_X0_outcomeIn im_X0_outcomeIn se_X0_outcomeIn (hF.at 0 rfl) rfl rfl rfl (Nat.le_of_ble_eq_true rfl) ⟨by decide, by decide⟩ ⟨by decide, by decide⟩ (c_X0_outcomeIn hst hF hb h6 hx hii) ?_
        refine J_iconst (v := -1) dX0_countOpen_18 (by decide) ?_
        refine J_icmp_ne (tgt := 26) dX0_countOpen_19 rfl (fun h19 => ?_) (fun h19 => ?_)
        · refine J_iconst (v := 0) dX0_countOpen_26 (by decide) ?_
          refine J_iadd dX0_countOpen_27 ?_
          refine J_istore_n (L' := [(1, _), (2, _), (0, _)]) dX0_countOpen_28 rfl (by decide) rfl ?_
          refine J_iinc (v := _ + 1) (L' := [(2, _), (1, _), (0, _)]) dX0_countOpen_29 rfl rfl (by decide) rfl ?_
          refine J_goto (tgt := 4) dX0_countOpen_32 rfl ?_
          refine xx_J.pick [0, 1, 2] rfl ?_
          exact ih _ _  (by rw [hx]; exact nI_1 i) (by rw [hacc]; simp [bx_sum, opn, h19])
        · refine J_iconst (v := 1) dX0_countOpen_22 (by decide) ?_
          refine J_goto (tgt := 27) dX0_countOpen_23 rfl ?_
          refine J_iadd dX0_countOpen_27 ?_
          refine J_istore_n (L' := [(1, _), (2, _), (0, _)]) dX0_countOpen_28 rfl (by decide) rfl ?_
          refine J_iinc (v := _ + 1) (L' := [(2, _), (1, _), (0, _)]) dX0_countOpen_29 rfl rfl (by decide) rfl ?_
          refine J_goto (tgt := 4) dX0_countOpen_32 rfl ?_
          refine xx_J.pick [0, 1, 2] rfl ?_
          exact ih _ _  (by rw [hx]; exact nI_1 i) (by rw [hacc]; simp [bx_sum, opn, h19])
  refine xx_J.pick [0, 1, 2] rfl ?_
  exact loop 0 (by omega) _ _  rfl rfl
theorem c_X0_canPair (hst : l.stackTraces = false) (hF : xx_w b (layF b F) A) {nw : Nat} (hn : F.1 0 = nI nw) (h12 : nw ≤ 12) {nb : Nat} (hb : F.1 5 = nI nb) (h6 : nb ≤ 6) : xx_C G l yX0_canPair mX0_canPair 3 66 0 0 [.ref b] A n (xx_ro (some (.int (xx_b (bx_sum (opn (F.2 6)) nb = 0 ∧ F.1 1 < 20 ∧ ¬ bx_sum (fun w => F.2 2 (8 * 12 + w)) nw < 2)))) A n) := by
  refine J_C hst (by decide +kernel) rfl rfl rfl (Nat.le_of_ble_eq_true rfl) ?_
  show xx_J _ _ _ _ _ _ _ _ 0 [(0, _)] [] _ _ _ _
  refine J_aload_n dX0_canPair_0 rfl rfl ?_
  refine J_callVr (As := []) dX0_canPair_1 ml_X0_89 cal_X0_countOpen im_X0_countOpen se_X0_countOpen (hF.at 0 rfl) rfl rfl rfl (Nat.le_of_ble_eq_true rfl) ⟨by decide, by decide⟩ ⟨by decide, by decide⟩ (c_X0_countOpen hst hF hb h6) ?_
  refine J_if_ne (tgt := 28) dX0_canPair_4 rfl (fun h4 => ?_) (fun h4 => ?_)
  · refine J_iconst (v := 0) dX0_canPair_28 (by decide) ?_
    refine J_ireturn dX0_canPair_29 rfl rfl (by decide) (by decide) ?_
    exact ⟨by unfold xx_b; split <;> first | rfl | (exfalso; simp only [i_lt, i_le, i_eq, i_0, i_1, i_2, i_3, i_4, i_5, i_6, i_8, i_9, i_10, i_12, i_16, i_20, i_m1] at *; omega), rfl, rfl⟩
  · refine J_aload_n dX0_canPair_7 rfl rfl ?_
    refine J_getf dX0_canPair_8 fl_X0_15 (hF.at 0 rfl) rfl ?_
    refine J_bipush (v := 20) dX0_canPair_11 (by decide) ?_
    refine J_icmp_ge (tgt := 28) dX0_canPair_13 rfl (fun h13 => ?_) (fun h13 => ?_)
    · refine J_iconst (v := 0) dX0_canPair_28 (by decide) ?_
      refine J_ireturn dX0_canPair_29 rfl rfl (by decide) (by decide) ?_
      exact ⟨by unfold xx_b; split <;> first | rfl | (exfalso; simp only [i_lt, i_le, i_eq, i_0, i_1, i_2, i_3, i_4, i_5, i_6, i_8, i_9, i_10, i_12, i_16, i_20, i_m1] at *; omega), rfl, rfl⟩
    · refine J_aload_n dX0_canPair_16 rfl rfl ?_
      refine J_callVr (As := []) dX0_canPair_17 ml_X0_93 cal_X0_countIn im_X0_countIn se_X0_countIn (hF.at 0 rfl) rfl rfl rfl (Nat.le_of_ble_eq_true rfl) ⟨by decide, by decide⟩ ⟨by decide, by decide⟩ (c_X0_countIn hst hF hn h12) ?_
      refine J_iconst (v := 2) dX0_canPair_20 (by decide) ?_
      refine J_icmp_lt (tgt := 28) dX0_canPair_21 rfl (fun h21 => ?_) (fun h21 => ?_)
      · refine J_iconst (v := 0) dX0_canPair_28 (by decide) ?_
        refine J_ireturn dX0_canPair_29 rfl rfl (by decide) (by decide) ?_
        exact ⟨by unfold xx_b; split <;> first | rfl | (exfalso; simp only [i_lt, i_le, i_eq, i_0, i_1, i_2, i_3, i_4, i_5, i_6, i_8, i_9, i_10, i_12, i_16, i_20, i_m1] at *; omega), rfl, rfl⟩
      · refine J_iconst (v := 1) dX0_canPair_24 (by decide) ?_
        refine J_goto (tgt := 29) dX0_canPair_25 rfl ?_
        refine J_ireturn dX0_canPair_29 rfl rfl (by decide) (by decide) ?_
        exact ⟨by unfold xx_b; split <;> first | rfl | (exfalso; simp only [i_lt, i_le, i_eq, i_0, i_1, i_2, i_3, i_4, i_5, i_6, i_8, i_9, i_10, i_12, i_16, i_20, i_m1] at *; omega), rfl, rfl⟩
theorem c_X0_rivalOf (hst : l.stackTraces = false) (hF : xx_w b (layF b F) A) {nb : Nat} (hb : F.1 5 = nI nb) (h6 : nb ≤ 6) (w : Int32) : xx_C G l yX0_rivalOf mX0_rivalOf 2 42 0 0 [.ref b, .int w] A n (xx_ro (some (.int (rivAt (F.2 4) (F.2 5) w nb 0))) A n) := by
  refine J_C hst (by decide +kernel) rfl rfl rfl (Nat.le_of_ble_eq_true rfl) ?_
  show xx_J _ _ _ _ _ _ _ _ 0 [(0, _), (1, _)] [] _ _ _ _
  refine J_iconst (v := 0) dX0_rivalOf_0 (by decide) ?_
  refine J_istore_n (L' := [(2, _), (0, _), (1, _)]) dX0_rivalOf_1 rfl (by decide) rfl ?_
  have loop : ∀ i, i ≤ nb → ∀ (x : Int32) , (x = nI i) → (rivAt (F.2 4) (F.2 5) w (nb - i) i = rivAt (F.2 4) (F.2 5) w nb 0) → xx_J G l mX0_rivalOf 2 42 0 0 (xx_ro (some (.int (rivAt (F.2 4) (F.2 5) w nb 0))) A n) 2 [(2, .int x), (0, .ref b), (1, .int w)] [] A n 0 0 := by
    refine xx_dn ?_ ?_
    · intro x   hx hr
      have eb : (F.1 5).toInt = nb := by rw [hb]; exact i_n (by omega)
      have ex : x.toInt = nb := by rw [hx]; exact i_n (by omega)
      refine J_iload_n dX0_rivalOf_2 rfl rfl ?_
      refine J_aload_n dX0_rivalOf_3 rfl rfl ?_
      refine J_getf dX0_rivalOf_4 fl_X0_28 (hF.at 0 rfl) rfl ?_
      refine J_icmp_ge (tgt := 46) dX0_rivalOf_7 rfl (fun h7 => ?_) (fun h7 => ?_)
      · refine J_iconst (v := -1) dX0_rivalOf_46 (by decide) ?_
        refine J_ireturn dX0_rivalOf_47 rfl rfl (by decide) (by decide) ?_
        exact ⟨by rw [← hr, Nat.sub_self]; rfl, rfl, rfl⟩
      · exfalso; simp only [i_lt, i_le, i_eq, i_0, i_1, i_2, i_3, i_4, i_5, i_6, i_8, i_9, i_10, i_12, i_16, i_20, i_m1] at h7; omega
    · intro i hii ih x   hx hr
      have eb : (F.1 5).toInt = nb := by rw [hb]; exact i_n (by omega)
      have ex : x.toInt = i := by rw [hx]; exact i_n (by omega)
      refine J_iload_n dX0_rivalOf_2 rfl rfl ?_
      refine J_aload_n dX0_rivalOf_3 rfl rfl ?_
      refine J_getf dX0_rivalOf_4 fl_X0_28 (hF.at 0 rfl) rfl ?_
      refine J_icmp_ge (tgt := 46) dX0_rivalOf_7 rfl (fun h7 => ?_) (fun h7 => ?_)
      · exfalso; simp only [i_lt, i_le, i_eq, i_0, i_1, i_2, i_3, i_4, i_5, i_6, i_8, i_9, i_10, i_12, i_16, i_20, i_m1] at h7; omega
      · refine J_aload_n dX0_rivalOf_10 rfl rfl ?_
        refine J_iload_n dX0_rivalOf_11 rfl rfl ?_
        refine J_callVr (As := [_]) dX0_rivalOf_12 ml_X0_96 cal_X0_redIn im_X0_redIn se_X0_redIn (hF.at 0 rfl) rfl rfl rfl (Nat.le_of_ble_eq_true rfl) ⟨by decide, by decide⟩ ⟨by decide, by decide⟩ (c_X0_redIn hst hF hb h6 hx hii) ?_
        refine J_iload_n dX0_rivalOf_15 rfl rfl ?_
        refine J_icmp_ne (tgt := 25) dX0_rivalOf_16 rfl (fun h16 => ?_) (fun h16 => ?_)
        · refine J_aload_n dX0_rivalOf_25 rfl rfl ?_
          refine J_iload_n dX0_rivalOf_26 rfl rfl ?_
          refine J_callVr (As := [_]) dX0_rivalOf_27 ml_X0_99 cal_X0_blueIn im_X0_blueIn se_X0_blueIn (hF.at 0 rfl) rfl rfl rfl (Nat.le_of_ble_eq_true rfl) ⟨by decide, by decide⟩ ⟨by decide, by decide⟩ (c_X0_blueIn hst hF hb h6 hx hii) ?_
          refine J_iload_n dX0_rivalOf_30 rfl rfl ?_
          refine J_icmp_ne (tgt := 40) dX0_rivalOf_31 rfl (fun h31 => ?_) (fun h31 => ?_)
          · refine J_iinc (v := _ + 1) (L' := [(2, _), (0, _), (1, _)]) dX0_rivalOf_40 rfl rfl (by decide) rfl ?_
            refine J_goto (tgt := 2) dX0_rivalOf_43 rfl ?_
            refine xx_J.pick [0, 1, 2] rfl ?_
            exact ih _  (by rw [hx]; exact nI_1 i) (by rw [← hr, rivAt_s hii, if_neg h16, if_neg h31])
          · refine J_aload_n dX0_rivalOf_34 rfl rfl ?_
            refine J_iload_n dX0_rivalOf_35 rfl rfl ?_
            refine J_callVr (As := [_]) dX0_rivalOf_36 ml_X0_96 cal_X0_redIn im_X0_redIn se_X0_redIn (hF.at 0 rfl) rfl rfl rfl (Nat.le_of_ble_eq_true rfl) ⟨by decide, by decide⟩ ⟨by decide, by decide⟩ (c_X0_redIn hst hF hb h6 hx hii) ?_
            refine J_ireturn dX0_rivalOf_39 rfl rfl (by decide) (by decide) ?_
            exact ⟨by rw [← hr, rivAt_s hii, if_neg h16, if_pos h31], rfl, rfl⟩
        · refine J_aload_n dX0_rivalOf_19 rfl rfl ?_
          refine J_iload_n dX0_rivalOf_20 rfl rfl ?_
          refine J_callVr (As := [_]) dX0_rivalOf_21 ml_X0_99 cal_X0_blueIn im_X0_blueIn se_X0_blueIn (hF.at 0 rfl) rfl rfl rfl (Nat.le_of_ble_eq_true rfl) ⟨by decide, by decide⟩ ⟨by decide, by decide⟩ (c_X0_blueIn hst hF hb h6 hx hii) ?_
          refine J_ireturn dX0_rivalOf_24 rfl rfl (by decide) (by decide) ?_
          exact ⟨by rw [← hr, rivAt_s hii, if_pos h16], rfl, rfl⟩
  refine xx_J.pick [0, 1, 2] rfl ?_
  exact loop 0 (by omega) _  rfl rfl
/-- the points of those whom q met -/
def rpts (F : xS) (nw q : Nat) : Int32 := bx_sum (fun o => F.2 3 (q * 12 + o) * F.2 2 (1 * 12 + o)) nw
theorem c_X0_pointsOfRivals (hst : l.stackTraces = false) (hF : xx_w b (layF b F) A) {nw : Nat} (hn : F.1 0 = nI nw) (h12 : nw ≤ 12) {q : Nat} {w : Int32} (hw : w = nI q) (hq : q < nw) : xx_C G l yX0_pointsOfRivals mX0_pointsOfRivals 2 44 0 0 [.ref b, .int w] A n (xx_ro (some (.int (rpts F nw q))) A n) := by
  refine J_C hst (by decide +kernel) rfl rfl rfl (Nat.le_of_ble_eq_true rfl) ?_
  show xx_J _ _ _ _ _ _ _ _ 0 [(0, _), (1, _)] [] _ _ _ _
  refine J_iconst (v := 0) dX0_pointsOfRivals_0 (by decide) ?_
  refine J_istore_n (L' := [(2, _), (0, _), (1, _)]) dX0_pointsOfRivals_1 rfl (by decide) rfl ?_
  refine J_iconst (v := 0) dX0_pointsOfRivals_2 (by decide) ?_
  refine J_istore_n (L' := [(3, _), (2, _), (0, _), (1, _)]) dX0_pointsOfRivals_3 rfl (by decide) rfl ?_
  have loop : ∀ i, i ≤ nw → ∀ (x acc : Int32) , (x = nI i) → (acc = bx_sum (fun o => F.2 3 (q * 12 + o) * F.2 2 (1 * 12 + o)) i) → xx_J G l mX0_pointsOfRivals 2 44 0 0 (xx_ro (some (.int (rpts F nw q))) A n) 4 [(3, .int x), (2, .int acc), (0, .ref b), (1, .int w)] [] A n 0 0 := by
    refine xx_dn ?_ ?_
    · intro x acc   hx hacc
      have en : (F.1 0).toInt = nw := by rw [hn]; exact i_n (by omega)
      have ex : x.toInt = nw := by rw [hx]; exact i_n (by omega)
      refine J_iload_n dX0_pointsOfRivals_4 rfl rfl ?_
      refine J_aload_n dX0_pointsOfRivals_5 rfl rfl ?_
      refine J_getf dX0_pointsOfRivals_6 fl_X0_9 (hF.at 0 rfl) rfl ?_
      refine J_icmp_ge (tgt := 34) dX0_pointsOfRivals_9 rfl (fun h9 => ?_) (fun h9 => ?_)
      · refine J_iload_n dX0_pointsOfRivals_34 rfl rfl ?_
        refine J_ireturn dX0_pointsOfRivals_35 rfl rfl (by decide) (by decide) ?_
        exact ⟨by rw [hacc]; rfl, rfl, rfl⟩
      · exfalso; simp only [i_lt, i_le, i_eq, i_0, i_1, i_2, i_3, i_4, i_5, i_6, i_8, i_9, i_10, i_12, i_16, i_20, i_m1] at h9; omega
    · intro i hii ih x acc   hx hacc
      have en : (F.1 0).toInt = nw := by rw [hn]; exact i_n (by omega)
      have ex : x.toInt = i := by rw [hx]; exact i_n (by omega)
      refine J_iload_n dX0_pointsOfRivals_4 rfl rfl ?_
      refine J_aload_n dX0_pointsOfRivals_5 rfl rfl ?_
      refine J_getf dX0_pointsOfRivals_6 fl_X0_9 (hF.at 0 rfl) rfl ?_
      refine J_icmp_ge (tgt := 34) dX0_pointsOfRivals_9 rfl (fun h9 => ?_) (fun h9 => ?_)
      · exfalso; simp only [i_lt, i_le, i_eq, i_0, i_1, i_2, i_3, i_4, i_5, i_6, i_8, i_9, i_10, i_12, i_16, i_20, i_m1] at h9; omega
      · refine J_iload_n dX0_pointsOfRivals_12 rfl rfl ?_
        refine J_aload_n dX0_pointsOfRivals_13 rfl rfl ?_
        refine J_iload_n dX0_pointsOfRivals_14 rfl rfl ?_
        refine J_iload_n dX0_pointsOfRivals_15 rfl rfl ?_
        refine J_callVr (As := [_, _]) dX0_pointsOfRivals_16 ml_X0_102 cal_X0_meetings im_X0_meetings se_X0_meetings (hF.at 0 rfl) rfl rfl rfl (Nat.le_of_ble_eq_true rfl) ⟨by decide, by decide⟩ ⟨by decide, by decide⟩ (c_X0_meetings hst hF hn h12 hw hq hx hii) ?_
        refine J_aload_n dX0_pointsOfRivals_19 rfl rfl ?_
        refine J_iconst (v := 1) dX0_pointsOfRivals_20 (by decide) ?_
        refine J_iload_n dX0_pointsOfRivals_21 rfl rfl ?_
        refine J_callVr (As := [_, _]) dX0_pointsOfRivals_22 ml_X0_75 cal_X0_of im_X0_of se_X0_of (hF.at 0 rfl) rfl rfl rfl (Nat.le_of_ble_eq_true rfl) ⟨by decide, by decide⟩ ⟨by decide, by decide⟩ (c_X0_of (q := 1) hst hF hn h12 rfl (by decide) hx hii) ?_
        refine J_imul dX0_pointsOfRivals_25 ?_
        refine J_iadd dX0_pointsOfRivals_26 ?_
        refine J_istore_n (L' := [(2, _), (3, _), (0, _), (1, _)]) dX0_pointsOfRivals_27 rfl (by decide) rfl ?_
        refine J_iinc (v := _ + 1) (L' := [(3, _), (2, _), (0, _), (1, _)]) dX0_pointsOfRivals_28 rfl rfl (by decide) rfl ?_
        refine J_goto (tgt := 4) dX0_pointsOfRivals_31 rfl ?_
        refine xx_J.pick [0, 1, 2, 3] rfl ?_
        exact ih _ _  (by rw [hx]; exact nI_1 i) (by rw [hacc]; rfl)
  refine xx_J.pick [0, 1, 2, 3] rfl ?_
  exact loop 0 (by omega) _ _  rfl rfl
theorem c_X0_standsAhead (hst : l.stackTraces = false) (hF : xx_w b (layF b F) A) {nw : Nat} (hn : F.1 0 = nI nw) (h12 : nw ≤ 12) {i j : Nat} {x y : Int32} (hx : x = nI i) (hi : i < nw) (hy : y = nI j) (hj : j < nw) : xx_C G l yX0_standsAhead mX0_standsAhead 2 44 0 0 [.ref b, .int x, .int y] A n (xx_ro (some (.int (xx_b (ahd (fun w => F.2 2 (1 * 12 + w)) (F.2 8) (fun w => F.2 2 (0 * 12 + w)) i j = true)))) A n) := by
  refine J_C hst (by decide +kernel) rfl rfl rfl (Nat.le_of_ble_eq_true rfl) ?_
  show xx_J _ _ _ _ _ _ _ _ 0 [(0, _), (1, _), (2, _)] [] _ _ _ _
  refine J_aload_n dX0_standsAhead_0 rfl rfl ?_
  refine J_iconst (v := 1) dX0_standsAhead_1 (by decide) ?_
  refine J_iload_n dX0_standsAhead_2 rfl rfl ?_
  refine J_callVr (As := [_, _]) dX0_standsAhead_3 ml_X0_75 cal_X0_of im_X0_of se_X0_of (hF.at 0 rfl) rfl rfl rfl (Nat.le_of_ble_eq_true rfl) ⟨by decide, by decide⟩ ⟨by decide, by decide⟩ (c_X0_of (q := 1) hst hF hn h12 rfl (by decide) hx hi) ?_
  refine J_aload_n dX0_standsAhead_6 rfl rfl ?_
  refine J_iconst (v := 1) dX0_standsAhead_7 (by decide) ?_
  refine J_iload_n dX0_standsAhead_8 rfl rfl ?_
  refine J_callVr (As := [_, _]) dX0_standsAhead_9 ml_X0_75 cal_X0_of im_X0_of se_X0_of (hF.at 0 rfl) rfl rfl rfl (Nat.le_of_ble_eq_true rfl) ⟨by decide, by decide⟩ ⟨by decide, by decide⟩ (c_X0_of (q := 1) hst hF hn h12 rfl (by decide) hy hj) ?_
  refine J_icmp_eq (tgt := 36) dX0_standsAhead_12 rfl (fun h12_ => ?_) (fun h12_ => ?_)
  · refine J_aload_n dX0_standsAhead_36 rfl rfl ?_
    refine J_getf dX0_standsAhead_37 fl_X0_46 (hF.at 0 rfl) rfl ?_
    refine J_iload_n dX0_standsAhead_40 rfl rfl ?_
    refine J_ialdN i dX0_standsAhead_41 (hF.at 8 rfl) hx (by omega) (by decide) ?_
    refine J_aload_n dX0_standsAhead_42 rfl rfl ?_
    refine J_getf dX0_standsAhead_43 fl_X0_46 (hF.at 0 rfl) rfl ?_
    refine J_iload_n dX0_standsAhead_46 rfl rfl ?_
    refine J_ialdN j dX0_standsAhead_47 (hF.at 8 rfl) hy (by omega) (by decide) ?_
    refine J_icmp_eq (tgt := 72) dX0_standsAhead_48 rfl (fun h48 => ?_) (fun h48 => ?_)
    · refine J_aload_n dX0_standsAhead_72 rfl rfl ?_
      refine J_iconst (v := 0) dX0_standsAhead_73 (by decide) ?_
      refine J_iload_n dX0_standsAhead_74 rfl rfl ?_
      refine J_callVr (As := [_, _]) dX0_standsAhead_75 ml_X0_75 cal_X0_of im_X0_of se_X0_of (hF.at 0 rfl) rfl rfl rfl (Nat.le_of_ble_eq_true rfl) ⟨by decide, by decide⟩ ⟨by decide, by decide⟩ (c_X0_of (q := 0) hst hF hn h12 rfl (by decide) hx hi) ?_
      refine J_aload_n dX0_standsAhead_78 rfl rfl ?_
      refine J_iconst (v := 0) dX0_standsAhead_79 (by decide) ?_
      refine J_iload_n dX0_standsAhead_80 rfl rfl ?_
      refine J_callVr (As := [_, _]) dX0_standsAhead_81 ml_X0_75 cal_X0_of im_X0_of se_X0_of (hF.at 0 rfl) rfl rfl rfl (Nat.le_of_ble_eq_true rfl) ⟨by decide, by decide⟩ ⟨by decide, by decide⟩ (c_X0_of (q := 0) hst hF hn h12 rfl (by decide) hy hj) ?_
      refine J_icmp_eq (tgt := 108) dX0_standsAhead_84 rfl (fun h84 => ?_) (fun h84 => ?_)
      · refine J_iload_n dX0_standsAhead_108 rfl rfl ?_
        refine J_iload_n dX0_standsAhead_109 rfl rfl ?_
        refine J_icmp_ge (tgt := 117) dX0_standsAhead_110 rfl (fun h110 => ?_) (fun h110 => ?_)
        · refine J_iconst (v := 0) dX0_standsAhead_117 (by decide) ?_
          refine J_ireturn dX0_standsAhead_118 rfl rfl (by decide) (by decide) ?_
          exact ⟨by unfold xx_b ahd; rw [if_pos h12_, if_pos h48, if_pos h84]; simp only [decide_eq_true_eq]; split <;> first | rfl | (exfalso; rw [hx, hy] at h110; simp only [i_le] at h110; rw [i_n (by omega), i_n (by omega)] at h110; omega), rfl, rfl⟩
        · refine J_iconst (v := 1) dX0_standsAhead_113 (by decide) ?_
          refine J_goto (tgt := 118) dX0_standsAhead_114 rfl ?_
          refine J_ireturn dX0_standsAhead_118 rfl rfl (by decide) (by decide) ?_
          exact ⟨by unfold xx_b ahd; rw [if_pos h12_, if_pos h48, if_pos h84]; simp only [decide_eq_true_eq]; split <;> first | rfl | (exfalso; rw [hx, hy] at h110; simp only [i_le] at h110; rw [i_n (by omega), i_n (by omega)] at h110; omega), rfl, rfl⟩
      · refine J_aload_n dX0_standsAhead_87 rfl rfl ?_
        refine J_iconst (v := 0) dX0_standsAhead_88 (by decide) ?_
        refine J_iload_n dX0_standsAhead_89 rfl rfl ?_
        refine J_callVr (As := [_, _]) dX0_standsAhead_90 ml_X0_75 cal_X0_of im_X0_of se_X0_of (hF.at 0 rfl) rfl rfl rfl (Nat.le_of_ble_eq_true rfl) ⟨by decide, by decide⟩ ⟨by decide, by decide⟩ (c_X0_of (q := 0) hst hF hn h12 rfl (by decide) hx hi) ?_
        refine J_aload_n dX0_standsAhead_93 rfl rfl ?_
        refine J_iconst (v := 0) dX0_standsAhead_94 (by decide) ?_
        refine J_iload_n dX0_standsAhead_95 rfl rfl ?_
        refine J_callVr (As := [_, _]) dX0_standsAhead_96 ml_X0_75 cal_X0_of im_X0_of se_X0_of (hF.at 0 rfl) rfl rfl rfl (Nat.le_of_ble_eq_true rfl) ⟨by decide, by decide⟩ ⟨by decide, by decide⟩ (c_X0_of (q := 0) hst hF hn h12 rfl (by decide) hy hj) ?_
        refine J_icmp_le (tgt := 106) dX0_standsAhead_99 rfl (fun h99 => ?_) (fun h99 => ?_)
        · refine J_iconst (v := 0) dX0_standsAhead_106 (by decide) ?_
          refine J_ireturn dX0_standsAhead_107 rfl rfl (by decide) (by decide) ?_
          exact ⟨by unfold xx_b; split <;> first | rfl | (exfalso; rename_i hz; revert hz; unfold ahd; simp_all), rfl, rfl⟩
        · refine J_iconst (v := 1) dX0_standsAhead_102 (by decide) ?_
          refine J_goto (tgt := 107) dX0_standsAhead_103 rfl ?_
          refine J_ireturn dX0_standsAhead_107 rfl rfl (by decide) (by decide) ?_
          exact ⟨by unfold xx_b; split <;> first | rfl | (exfalso; rename_i hz; revert hz; unfold ahd; simp_all), rfl, rfl⟩
    · refine J_aload_n dX0_standsAhead_51 rfl rfl ?_
      refine J_getf dX0_standsAhead_52 fl_X0_46 (hF.at 0 rfl) rfl ?_
      refine J_iload_n dX0_standsAhead_55 rfl rfl ?_
      refine J_ialdN i dX0_standsAhead_56 (hF.at 8 rfl) hx (by omega) (by decide) ?_
      refine J_aload_n dX0_standsAhead_57 rfl rfl ?_
      refine J_getf dX0_standsAhead_58 fl_X0_46 (hF.at 0 rfl) rfl ?_
      refine J_iload_n dX0_standsAhead_61 rfl rfl ?_
      refine J_ialdN j dX0_standsAhead_62 (hF.at 8 rfl) hy (by omega) (by decide) ?_
      refine J_icmp_le (tgt := 70) dX0_standsAhead_63 rfl (fun h63 => ?_) (fun h63 => ?_)
      · refine J_iconst (v := 0) dX0_standsAhead_70 (by decide) ?_
        refine J_ireturn dX0_standsAhead_71 rfl rfl (by decide) (by decide) ?_
        exact ⟨by unfold xx_b; split <;> first | rfl | (exfalso; rename_i hz; revert hz; unfold ahd; simp_all), rfl, rfl⟩
      · refine J_iconst (v := 1) dX0_standsAhead_66 (by decide) ?_
        refine J_goto (tgt := 71) dX0_standsAhead_67 rfl ?_
        refine J_ireturn dX0_standsAhead_71 rfl rfl (by decide) (by decide) ?_
        exact ⟨by unfold xx_b; split <;> first | rfl | (exfalso; rename_i hz; revert hz; unfold ahd; simp_all), rfl, rfl⟩
  · refine J_aload_n dX0_standsAhead_15 rfl rfl ?_
    refine J_iconst (v := 1) dX0_standsAhead_16 (by decide) ?_
    refine J_iload_n dX0_standsAhead_17 rfl rfl ?_
    refine J_callVr (As := [_, _]) dX0_standsAhead_18 ml_X0_75 cal_X0_of im_X0_of se_X0_of (hF.at 0 rfl) rfl rfl rfl (Nat.le_of_ble_eq_true rfl) ⟨by decide, by decide⟩ ⟨by decide, by decide⟩ (c_X0_of (q := 1) hst hF hn h12 rfl (by decide) hx hi) ?_
    refine J_aload_n dX0_standsAhead_21 rfl rfl ?_
    refine J_iconst (v := 1) dX0_standsAhead_22 (by decide) ?_
    refine J_iload_n dX0_standsAhead_23 rfl rfl ?_
    refine J_callVr (As := [_, _]) dX0_standsAhead_24 ml_X0_75 cal_X0_of im_X0_of se_X0_of (hF.at 0 rfl) rfl rfl rfl (Nat.le_of_ble_eq_true rfl) ⟨by decide, by decide⟩ ⟨by decide, by decide⟩ (c_X0_of (q := 1) hst hF hn h12 rfl (by decide) hy hj) ?_
    refine J_icmp_le (tgt := 34) dX0_standsAhead_27 rfl (fun h27 => ?_) (fun h27 => ?_)
    · refine J_iconst (v := 0) dX0_standsAhead_34 (by decide) ?_
      refine J_ireturn dX0_standsAhead_35 rfl rfl (by decide) (by decide) ?_
      exact ⟨by unfold xx_b; split <;> first | rfl | (exfalso; rename_i hz; revert hz; unfold ahd; simp_all), rfl, rfl⟩
    · refine J_iconst (v := 1) dX0_standsAhead_30 (by decide) ?_
      refine J_goto (tgt := 35) dX0_standsAhead_31 rfl ?_
      refine J_ireturn dX0_standsAhead_35 rfl rfl (by decide) (by decide) ?_
      exact ⟨by unfold xx_b; split <;> first | rfl | (exfalso; rename_i hz; revert hz; unfold ahd; simp_all), rfl, rfl⟩
theorem c_X0_atPlace (hst : l.stackTraces = false) (hF : xx_w b (layF b F) A) {nw : Nat} (hn : F.1 0 = nI nw) (h12 : nw ≤ 12) {i : Nat} {x : Int32} (hx : x = nI i) (hi : i < nw) : xx_C G l yX0_atPlace mX0_atPlace 1 21 0 0 [.ref b, .int x] A n (xx_ro (some (.int (F.2 7 i))) A n) := by
  subst hx
  refine J_C hst (by decide +kernel) rfl rfl rfl (Nat.le_of_ble_eq_true rfl) ?_
  show xx_J _ _ _ _ _ _ _ _ 0 [(0, _), (1, _)] [] _ _ _ _
  refine J_aload_n dX0_atPlace_0 rfl rfl ?_
  refine J_iload_n dX0_atPlace_1 rfl rfl ?_
  refine J_callVr (As := [_]) dX0_atPlace_2 ml_X0_78 cal_X0_hasWrestler im_X0_hasWrestler se_X0_hasWrestler (hF.at 0 rfl) rfl rfl rfl (Nat.le_of_ble_eq_true rfl) ⟨by decide, by decide⟩ ⟨by decide, by decide⟩ (c_X0_hasWrestler hst hF _) ?_
  refine J_ifb_eq (tgt := 17) dX0_atPlace_5 rfl (fun h5 => ?_) (fun h5 => ?_)
  · exact absurd (b_in hn h12 hi) h5
  · refine J_aload_n dX0_atPlace_8 rfl rfl ?_
    refine J_getf dX0_atPlace_9 fl_X0_43 (hF.at 0 rfl) rfl ?_
    refine J_iload_n dX0_atPlace_12 rfl rfl ?_
    refine J_ialdN i dX0_atPlace_13 (hF.at 7 rfl) rfl (by omega) (by decide) ?_
    refine J_goto (tgt := 18) dX0_atPlace_14 rfl ?_
    refine J_ireturn dX0_atPlace_18 rfl rfl (by decide) (by decide) ?_
    exact ⟨rfl, rfl, rfl⟩
/-- the first place of o that holds w, from i on -/
def plcAt (o : Nat → Int32) (w : Int32) : Nat → Nat → Nat
  | 0, i => i
  | d + 1, i => if o i = w then i else plcAt o w d (i + 1)
theorem plcAt_s {o : Nat → Int32} {w : Int32} {e i : Nat} (h : i < e) : plcAt o w (e - i) i = if o i = w then i else plcAt o w (e - (i + 1)) (i + 1) := by
  rw [show e - i = (e - (i + 1)) + 1 by omega]
  rfl
theorem c_X0_placeOf (hst : l.stackTraces = false) (hF : xx_w b (layF b F) A) {nw : Nat} (hn : F.1 0 = nI nw) (h12 : nw ≤ 12) (w : Int32) : xx_C G l yX0_placeOf mX0_placeOf 0 0 0 0 [.ref b, .int w] A n (xx_ro (some (.int (nI (plcAt (F.2 7) w nw 0)))) A n) := by
  refine J_C hst (by decide +kernel) rfl rfl rfl (Nat.le_of_ble_eq_true rfl) ?_
  show xx_J _ _ _ _ _ _ _ _ 0 [(0, _), (1, _)] [] _ _ _ _
  refine J_iconst (v := 0) dX0_placeOf_0 (by decide) ?_
  refine J_istore_n (L' := [(2, _), (0, _), (1, _)]) dX0_placeOf_1 rfl (by decide) rfl ?_
  have loop : ∀ i, i ≤ nw → ∀ (x : Int32) , (x = nI i) → (plcAt (F.2 7) w (nw - i) i = plcAt (F.2 7) w nw 0) → xx_J G l mX0_placeOf 0 0 0 0 (xx_ro (some (.int (nI (plcAt (F.2 7) w nw 0)))) A n) 2 [(2, .int x), (0, .ref b), (1, .int w)] [] A n 0 0 := by
    refine xx_dn ?_ ?_
    · intro x   hx hr
      have en : (F.1 0).toInt = nw := by rw [hn]; exact i_n (by omega)
      have ex : x.toInt = nw := by rw [hx]; exact i_n (by omega)
      refine J_iload_n dX0_placeOf_2 rfl rfl ?_
      refine J_aload_n dX0_placeOf_3 rfl rfl ?_
      refine J_getf dX0_placeOf_4 fl_X0_9 (hF.at 0 rfl) rfl ?_
      refine J_icmp_ge (tgt := 26) dX0_placeOf_7 rfl (fun h7 => ?_) (fun h7 => ?_)
      · have e9 : plcAt (F.2 7) w nw 0 = nw := by rw [← hr, Nat.sub_self]; rfl
        refine J_iload_n dX0_placeOf_26 rfl rfl ?_
        refine J_ireturn dX0_placeOf_27 rfl rfl (by decide) (by decide) ?_
        exact ⟨by rw [hx, e9], rfl, rfl⟩
      · exfalso; simp only [i_lt, i_le, i_eq, i_0, i_1, i_2, i_3, i_4, i_5, i_6, i_8, i_9, i_10, i_12, i_16, i_20, i_m1] at h7; omega
    · intro i hii ih x   hx hr
      have en : (F.1 0).toInt = nw := by rw [hn]; exact i_n (by omega)
      have ex : x.toInt = i := by rw [hx]; exact i_n (by omega)
      refine J_iload_n dX0_placeOf_2 rfl rfl ?_
      refine J_aload_n dX0_placeOf_3 rfl rfl ?_
      refine J_getf dX0_placeOf_4 fl_X0_9 (hF.at 0 rfl) rfl ?_
      refine J_icmp_ge (tgt := 26) dX0_placeOf_7 rfl (fun h7 => ?_) (fun h7 => ?_)
      · exfalso; simp only [i_lt, i_le, i_eq, i_0, i_1, i_2, i_3, i_4, i_5, i_6, i_8, i_9, i_10, i_12, i_16, i_20, i_m1] at h7; omega
      · refine J_aload_n dX0_placeOf_10 rfl rfl ?_
        refine J_getf dX0_placeOf_11 fl_X0_43 (hF.at 0 rfl) rfl ?_
        refine J_iload_n dX0_placeOf_14 rfl rfl ?_
        refine J_ialdN i dX0_placeOf_15 (hF.at 7 rfl) hx (by omega) (by decide) ?_
        refine J_iload_n dX0_placeOf_16 rfl rfl ?_
        refine J_icmp_eq (tgt := 26) dX0_placeOf_17 rfl (fun h17 => ?_) (fun h17 => ?_)
        · have e9 : plcAt (F.2 7) w nw 0 = i := by rw [← hr, plcAt_s hii, if_pos h17]
          refine J_iload_n dX0_placeOf_26 rfl rfl ?_
          refine J_ireturn dX0_placeOf_27 rfl rfl (by decide) (by decide) ?_
          exact ⟨by rw [hx, e9], rfl, rfl⟩
        · refine J_iinc (v := _ + 1) (L' := [(2, _), (0, _), (1, _)]) dX0_placeOf_20 rfl rfl (by decide) rfl ?_
          refine J_goto (tgt := 2) dX0_placeOf_23 rfl ?_
          refine xx_J.pick [0, 1, 2] rfl ?_
          exact ih _  (by rw [hx]; exact nI_1 i) (by rw [← hr, plcAt_s hii, if_neg h17])
  refine xx_J.pick [0, 1, 2] rfl ?_
  exact loop 0 (by omega) _  rfl rfl
abbrev f_pts (F : xS) : Nat → Int32 := fun w => F.2 2 (1 * 12 + w)
abbrev f_str (F : xS) : Nat → Int32 := fun w => F.2 2 (0 * 12 + w)
/-- the order of a Field -/
abbrev f_R (F : xS) (nw : Nat) : Nat → Nat → Bool := ahd (f_pts F) (rpts F nw) (f_str F)
theorem ahd_mp {pts mp mp' str : Nat → Int32} {a b : Nat} (ha : mp a = mp' a) (hb : mp b = mp' b) : ahd pts mp str a b = ahd pts mp' str a b := by unfold ahd; rw [ha, hb]
theorem f_R_mp {F : xS} {nw : Nat} {mp : Nat → Int32} {a c : Nat} (ha : mp a = rpts F nw a) (hb : mp c = rpts F nw c) : ahd (f_pts F) mp (f_str F) a c = f_R F nw a c := ahd_mp ha hb
set_option maxRecDepth 100000 in
set_option maxHeartbeats 4000000 in
theorem c_X0_putInOrder (hst : l.stackTraces = false) (hF : xx_w b (layF b F) A) {nw : Nat} (hn : F.1 0 = nI nw) (h12 : nw ≤ 12) : xx_C G l yX0_putInOrder mX0_putInOrder 3 67 0 0 [.ref b] A n (xx_wr none n (fun A' => ∃ (mp o : Nat → Int32) (ls : List Nat), xx_w b (layF b (a_up (a_up F 8 mp) 7 o)) A' ∧ xx_same b (b + 9) A A' ∧ ordOf (f_R F nw) nw o ls)) := by
  refine J_C hst (by decide +kernel) rfl rfl rfl (Nat.le_of_ble_eq_true rfl) ?_
  show xx_J _ _ _ _ _ _ _ _ 0 [(0, _)] [] _ _ _ _
  refine J_iconst (v := 0) dX0_putInOrder_0 (by decide) ?_
  refine J_istore_n (L' := [(1, _), (0, _)]) dX0_putInOrder_1 rfl (by decide) rfl ?_
  have loop : ∀ i, i ≤ nw → ∀ (x : Int32) (A1 : xx_H) (g : Nat → Int32), (x = nI i) → (xx_w b (layF b (a_up F 8 g)) A1) → (xx_same b (b + 9) A A1) → (∀ p, p < i → g p = rpts F nw p) → xx_J G l mX0_putInOrder 3 67 0 0 (xx_wr none n (fun A' => ∃ (mp o : Nat → Int32) (ls : List Nat), xx_w b (layF b (a_up (a_up F 8 mp) 7 o)) A' ∧ xx_same b (b + 9) A A' ∧ ordOf (f_R F nw) nw o ls)) 2 [(1, .int x), (0, .ref b)] [] A1 n 0 0 := by
    refine xx_dn ?_ ?_
    · intro x  A1  g  hx hF1 hs1 hg
      have en : (F.1 0).toInt = nw := by rw [hn]; exact i_n (by omega)
      have ex : x.toInt = nw := by rw [hx]; exact i_n (by omega)
      refine J_iload_n dX0_putInOrder_2 rfl rfl ?_
      refine J_aload_n dX0_putInOrder_3 rfl rfl ?_
      refine J_getf dX0_putInOrder_4 fl_X0_9 (hF1.at 0 rfl) rfl ?_
      refine J_icmp_ge (tgt := 27) dX0_putInOrder_7 rfl (fun h7 => ?_) (fun h7 => ?_)
      · obtain ⟨mp, hmp⟩ : ∃ mp, mp = g := ⟨_, rfl⟩
        rw [← hmp] at hF1 hg
        have hmp : ∀ p, p < nw → mp p = rpts F nw p := hg
        refine J_iconst (v := 0) dX0_putInOrder_27 (by decide) ?_
        refine J_istore_n (L' := [(1, _), (0, _)]) dX0_putInOrder_28 rfl (by decide) rfl ?_
        have outer : ∀ i, i ≤ nw → ∀ (A1 : xx_H) (o1 : Nat → Int32) (ls : List Nat) (x : Int32), x = nI i → xx_w b (layF b (a_up (a_up F 8 mp) 7 o1)) A1 → xx_same b (b + 9) A A1 → ordOf (f_R F nw) i o1 ls → xx_J G l mX0_putInOrder 3 67 0 0 (xx_wr none n (fun A' => ∃ (mp o : Nat → Int32) (ls : List Nat), xx_w b (layF b (a_up (a_up F 8 mp) 7 o)) A' ∧ xx_same b (b + 9) A A' ∧ ordOf (f_R F nw) nw o ls)) 29 [(1, .int x), (0, .ref b)] [] A1 n 0 0 := by
          refine xx_dn ?_ ?_
          · intro A1 o1 ls x hx hF1 hs1 hls
            have en : (F.1 0).toInt = nw := by rw [hn]; exact i_n (by omega)
            have ex : x.toInt = nw := by rw [hx]; exact i_n (by omega)
            refine J_iload_n dX0_putInOrder_29 rfl rfl ?_
            refine J_aload_n dX0_putInOrder_30 rfl rfl ?_
            refine J_getf dX0_putInOrder_31 fl_X0_9 (hF1.at 0 rfl) rfl ?_
            refine J_icmp_ge (tgt := 92) dX0_putInOrder_34 rfl (fun h34 => ?_) (fun h34 => ?_)
            · refine J_return dX0_putInOrder_92 rfl (by decide) (by decide) ?_
              exact ⟨rfl, rfl, mp, o1, ls, hF1, hs1, hls⟩
            · exfalso; simp only [i_lt, i_le, i_eq, i_0, i_1, i_2, i_3, i_4, i_5, i_6, i_8, i_9, i_10, i_12, i_16, i_20, i_m1] at h34; omega
          · intro i hii ih A1 o1 ls x hx hF1 hs1 hls
            have en : (F.1 0).toInt = nw := by rw [hn]; exact i_n (by omega)
            have ex : x.toInt = i := by rw [hx]; exact i_n (by omega)
            have inner : ∀ pl, pl ≤ i → ∀ (A2 : xx_H) (o2 : Nat → Int32) (y : Int32), y = nI pl → xx_w b (layF b (a_up (a_up F 8 mp) 7 o2)) A2 → xx_same b (b + 9) A A2 → (∀ q, q < pl → o2 q = nI (ls.getD q 0)) → (∀ q, pl ≤ q → q < i → o2 (q + 1) = nI (ls.getD q 0) ∧ f_R F nw i (ls.getD q 0) = true) → xx_J G l mX0_putInOrder 3 67 0 0 (xx_wr none n (fun A' => ∃ (mp o : Nat → Int32) (ls : List Nat), xx_w b (layF b (a_up (a_up F 8 mp) 7 o)) A' ∧ xx_same b (b + 9) A A' ∧ ordOf (f_R F nw) nw o ls)) 39 [(2, .int y), (1, .int x), (0, .ref b)] [] A2 n 0 0 := by
              intro pl
              have out : ∀ pl, pl ≤ i → ∀ (A2 : xx_H) (o2 : Nat → Int32) (y : Int32), y = nI pl → xx_w b (layF b (a_up (a_up F 8 mp) 7 o2)) A2 → xx_same b (b + 9) A A2 → (∀ q, q < pl → o2 q = nI (ls.getD q 0)) → (∀ q, pl ≤ q → q < i → o2 (q + 1) = nI (ls.getD q 0) ∧ f_R F nw i (ls.getD q 0) = true) → (pl = 0 ∨ ¬ f_R F nw i (ls.getD (pl - 1) 0) = true) → xx_J G l mX0_putInOrder 3 67 0 0 (xx_wr none n (fun A' => ∃ (mp o : Nat → Int32) (ls : List Nat), xx_w b (layF b (a_up (a_up F 8 mp) 7 o)) A' ∧ xx_same b (b + 9) A A' ∧ ordOf (f_R F nw) nw o ls)) 79 [(2, .int y), (1, .int x), (0, .ref b)] [] A2 n 0 0 := by
                intro pl hpl A2 o2 y hy hF2 hs2 g1 g2 g3
                refine J_aload_n dX0_putInOrder_79 rfl rfl ?_
                refine J_getf dX0_putInOrder_80 fl_X0_43 (hF2.at 0 rfl) rfl ?_
                refine J_iload_n dX0_putInOrder_83 rfl rfl ?_
                refine J_iload_n dX0_putInOrder_84 rfl rfl ?_
                refine J_iastN pl dX0_putInOrder_85 (hF2.at 7 rfl) hy (by omega) (by decide) ?_
                refine J_gen (wF_a7 hF2 _) (hs2.put (by omega) (by omega) _) (fun A101 w101 s101 o101 => ?_)
                refine J_iinc (v := _ + 1) (L' := [(1, _), (2, _), (0, _)]) dX0_putInOrder_86 rfl rfl (by decide) rfl ?_
                refine J_goto (tgt := 29) dX0_putInOrder_89 rfl ?_
                refine xx_J.pick [0, 2] rfl ?_
                exact ih _ (upd o2 pl x) _ _ (by rw [hx]; exact nI_1 i) (wF_uu w101) s101 (hls.ins (ahd_sto _ _ _) hpl (fun q hq => by simp only [upd]; rw [if_neg (by omega)]; exact g1 q hq) (fun q h1 h2 => by simp only [upd]; rw [if_neg (by omega)]; exact g2 q h1 h2) g3 (by simp [upd]; exact hx))
              induction pl with
              | zero =>
                intro hpl A2 o2 y hy hF2 hs2 g1 g2
                have ey : y.toInt = 0 := by rw [hy]; rfl
                refine J_iload_n dX0_putInOrder_39 rfl rfl ?_
                refine J_if_le (tgt := 79) dX0_putInOrder_40 rfl (fun h40 => ?_) (fun h40 => ?_)
                · exact out 0 (by omega) A2 o2 y hy hF2 hs2 g1 g2 (Or.inl rfl)
                · exfalso; simp only [i_lt, i_le, i_eq, i_0, i_1, i_2, i_3, i_4, i_5, i_6, i_8, i_9, i_10, i_12, i_16, i_20, i_m1] at h40; omega
              | succ pl ihp =>
                intro hpl A2 o2 y hy hF2 hs2 g1 g2
                have ey : y.toInt = pl + 1 := by rw [hy]; exact i_n (by omega)
                have hgt : ls.getD pl 0 < i := hls.lt (by omega)
                refine J_iload_n dX0_putInOrder_39 rfl rfl ?_
                refine J_if_le (tgt := 79) dX0_putInOrder_40 rfl (fun h40 => ?_) (fun h40 => ?_)
                · exfalso; simp only [i_lt, i_le, i_eq, i_0, i_1, i_2, i_3, i_4, i_5, i_6, i_8, i_9, i_10, i_12, i_16, i_20, i_m1] at h40; omega
                · refine J_aload_n dX0_putInOrder_43 rfl rfl ?_
                  refine J_iload_n dX0_putInOrder_44 rfl rfl ?_
                  refine J_aload_n dX0_putInOrder_45 rfl rfl ?_
                  refine J_getf dX0_putInOrder_46 fl_X0_43 (hF2.at 0 rfl) rfl ?_
                  refine J_iload_n dX0_putInOrder_49 rfl rfl ?_
                  refine J_iconst (v := 1) dX0_putInOrder_50 (by decide) ?_
                  refine J_isub dX0_putInOrder_51 ?_
                  refine J_ialdN pl dX0_putInOrder_52 (hF2.at 7 rfl) (by rw [hy, show (1 : Int32) = nI 1 from rfl, pk_sub (by omega)]; rfl) (by omega) (by decide) ?_
                  refine J_callVr (As := [_, _]) dX0_putInOrder_53 ml_X0_108 cal_X0_standsAhead im_X0_standsAhead se_X0_standsAhead (hF2.at 0 rfl) rfl rfl rfl (Nat.le_of_ble_eq_true rfl) ⟨by decide, by decide⟩ ⟨by decide, by decide⟩ (c_X0_standsAhead hst hF2 hn h12 hx hii (g1 pl (by omega)) (Nat.lt_trans hgt hii)) ?_
                  refine J_ifb_eq (tgt := 79) dX0_putInOrder_56 rfl (fun h56 => ?_) (fun h56 => ?_)
                  · exact out (pl + 1) hpl A2 o2 y hy hF2 hs2 g1 g2 (Or.inr (fun z => h56 ((f_R_mp (hmp i hii) (hmp _ (Nat.lt_trans hgt hii))).trans z)))
                  · refine J_aload_n dX0_putInOrder_59 rfl rfl ?_
                    refine J_getf dX0_putInOrder_60 fl_X0_43 (hF2.at 0 rfl) rfl ?_
                    refine J_iload_n dX0_putInOrder_63 rfl rfl ?_
                    refine J_aload_n dX0_putInOrder_64 rfl rfl ?_
                    refine J_getf dX0_putInOrder_65 fl_X0_43 (hF2.at 0 rfl) rfl ?_
                    refine J_iload_n dX0_putInOrder_68 rfl rfl ?_
                    refine J_iconst (v := 1) dX0_putInOrder_69 (by decide) ?_
                    refine J_isub dX0_putInOrder_70 ?_
                    refine J_ialdN pl dX0_putInOrder_71 (hF2.at 7 rfl) (by rw [hy, show (1 : Int32) = nI 1 from rfl, pk_sub (by omega)]; rfl) (by omega) (by decide) ?_
                    refine J_iastN (pl + 1) dX0_putInOrder_72 (hF2.at 7 rfl) hy (by omega) (by decide) ?_
                    refine J_gen (wF_a7 hF2 _) (hs2.put (by omega) (by omega) _) (fun A121 w121 s121 o121 => ?_)
                    refine J_iinc (v := _ + (-1)) (L' := [(2, _), (1, _), (0, _)]) dX0_putInOrder_73 rfl rfl (by decide) rfl ?_
                    refine J_goto (tgt := 39) dX0_putInOrder_76 rfl ?_
                    refine xx_J.pick [0, 1, 2] rfl ?_
                    exact ihp (by omega) _ (upd o2 (pl + 1) (o2 pl)) _ (by rw [hy]; exact pk_m1 pl) (wF_uu w121) s121 (fun q hq => by simp only [upd]; rw [if_neg (by omega)]; exact g1 q (by omega)) (fun q h1 h2 => by
                      by_cases hq : q = pl
                      · subst hq
                        refine ⟨by simp [upd]; exact g1 q (by omega), ?_⟩
                        exact (f_R_mp (hmp i hii) (hmp _ (Nat.lt_trans hgt hii))).symm.trans h56
                      · simp only [upd]; rw [if_neg (by omega)]; exact g2 q (by omega) h2)
            refine J_iload_n dX0_putInOrder_29 rfl rfl ?_
            refine J_aload_n dX0_putInOrder_30 rfl rfl ?_
            refine J_getf dX0_putInOrder_31 fl_X0_9 (hF1.at 0 rfl) rfl ?_
            refine J_icmp_ge (tgt := 92) dX0_putInOrder_34 rfl (fun h34 => ?_) (fun h34 => ?_)
            · exfalso; simp only [i_lt, i_le, i_eq, i_0, i_1, i_2, i_3, i_4, i_5, i_6, i_8, i_9, i_10, i_12, i_16, i_20, i_m1] at h34; omega
            · refine J_iload_n dX0_putInOrder_37 rfl rfl ?_
              refine J_istore_n (L' := [(2, _), (1, _), (0, _)]) dX0_putInOrder_38 rfl (by decide) rfl ?_
              refine xx_J.pick [0, 1, 2] rfl ?_
              exact inner i (Nat.le_refl _) _ _ _ hx hF1 hs1 (fun q hq => hls.2.2 q hq) (fun q h1 h2 => by omega)
        refine xx_J.pick [0, 1] rfl ?_
        exact outer 0 (by omega) _ (F.2 7) [] _ rfl hF1 hs1 ⟨List.Perm.refl _, List.Pairwise.nil, fun p hp => absurd hp (Nat.not_lt_zero p)⟩
      · exfalso; simp only [i_lt, i_le, i_eq, i_0, i_1, i_2, i_3, i_4, i_5, i_6, i_8, i_9, i_10, i_12, i_16, i_20, i_m1] at h7; omega
    · intro i hii ih x  A1  g  hx hF1 hs1 hg
      have en : (F.1 0).toInt = nw := by rw [hn]; exact i_n (by omega)
      have ex : x.toInt = i := by rw [hx]; exact i_n (by omega)
      refine J_iload_n dX0_putInOrder_2 rfl rfl ?_
      refine J_aload_n dX0_putInOrder_3 rfl rfl ?_
      refine J_getf dX0_putInOrder_4 fl_X0_9 (hF1.at 0 rfl) rfl ?_
      refine J_icmp_ge (tgt := 27) dX0_putInOrder_7 rfl (fun h7 => ?_) (fun h7 => ?_)
      · exfalso; simp only [i_lt, i_le, i_eq, i_0, i_1, i_2, i_3, i_4, i_5, i_6, i_8, i_9, i_10, i_12, i_16, i_20, i_m1] at h7; omega
      · refine J_aload_n dX0_putInOrder_10 rfl rfl ?_
        refine J_getf dX0_putInOrder_11 fl_X0_46 (hF1.at 0 rfl) rfl ?_
        refine J_iload_n dX0_putInOrder_14 rfl rfl ?_
        refine J_aload_n dX0_putInOrder_15 rfl rfl ?_
        refine J_iload_n dX0_putInOrder_16 rfl rfl ?_
        refine J_callVr (As := [_]) dX0_putInOrder_17 ml_X0_105 cal_X0_pointsOfRivals im_X0_pointsOfRivals se_X0_pointsOfRivals (hF1.at 0 rfl) rfl rfl rfl (Nat.le_of_ble_eq_true rfl) ⟨by decide, by decide⟩ ⟨by decide, by decide⟩ (c_X0_pointsOfRivals hst hF1 hn h12 hx hii) ?_
        refine J_iastN i dX0_putInOrder_20 (hF1.at 8 rfl) hx (by omega) (by decide) ?_
        refine J_gen (wF_a8 hF1 _) (hs1.put (by omega) (by omega) _) (fun A51 w51 s51 o51 => ?_)
        refine J_iinc (v := _ + 1) (L' := [(1, _), (0, _)]) dX0_putInOrder_21 rfl rfl (by decide) rfl ?_
        refine J_goto (tgt := 2) dX0_putInOrder_24 rfl ?_
        refine xx_J.pick [0, 1] rfl ?_
        exact ih _ _ (upd g i (rpts F nw i)) (by rw [hx]; exact nI_1 i) (wF_uu w51) s51 (fun p hp => by
          by_cases hpi : p = i
          · subst hpi; simp [upd]
          · simp only [upd]; rw [if_neg hpi]; exact hg p (by omega))
  refine xx_J.pick [0, 1] rfl ?_
  exact loop 0 (by omega) _ A (F.2 8) rfl hF (xx_same.rf (b := b) (e := b + 9)) (fun p hp => absurd hp (Nat.not_lt_zero p))
abbrev f_at (F : xS) (q i : Nat) : Int32 := F.2 2 (q * 12 + i)
abbrev f_set (F : xS) (q i : Nat) (v : Int32) : xS := a_up F 2 (upd (F.2 2) (q * 12 + i) v)
abbrev f_add (F : xS) (q i : Nat) (v : Int32) : xS := a_up F 2 (upd (F.2 2) (q * 12 + i) (F.2 2 (q * 12 + i) + v))
/-- has the one who stands ahead the red belt -/
def redA (F : xS) (i j : Nat) : Prop := if f_at F 6 i = f_at F 6 j then ¬ f_at F 9 i < f_at F 9 j else f_at F 6 i < f_at F 6 j
def redA_dec (F : xS) (i j : Nat) : Decidable (redA F i j) := by unfold redA; exact inferInstance
abbrev redB (F : xS) (i j : Nat) : Bool := @decide (redA F i j) (redA_dec F i j)
theorem redB_eq {F : xS} {i j : Nat} : redB F i j = true ↔ redA F i j := @decide_eq_true_iff _ (redA_dec F i j)
def drawF (F : xS) (i : Nat) : xS := f_add (f_add F 3 i 1) 1 i ((f_add F 3 i 1).2 1 1)
def winF (F : xS) (i j : Nat) : xS := f_add (f_add (f_add F 2 i 1) 1 i ((f_add F 2 i 1).2 1 0)) 4 j 1
/-- the outcome v of bout q is told, of i in red and j in blue -/
def tellF (F : xS) (q i j : Nat) (v : Int32) : xS := if v = 1 then drawF (drawF (a_up F 6 (upd (F.2 6) q v)) i) j else if v = 0 then winF (a_up F 6 (upd (F.2 6) q v)) i j else winF (a_up F 6 (upd (F.2 6) q v)) j i
theorem c_X0_takesRedAhead (hst : l.stackTraces = false) (hF : xx_w b (layF b F) A) {nw : Nat} (hn : F.1 0 = nI nw) (h12 : nw ≤ 12) {i j : Nat} {x y : Int32} (hx : x = nI i) (hi : i < nw) (hy : y = nI j) (hj : j < nw) : xx_C G l yX0_takesRedAhead mX0_takesRedAhead 2 44 0 0 [.ref b, .int x, .int y] A n (xx_ro (some (.int (xx_b (redB F i j = true)))) A n) := by
  refine J_C hst (by decide +kernel) rfl rfl rfl (Nat.le_of_ble_eq_true rfl) ?_
  show xx_J _ _ _ _ _ _ _ _ 0 [(0, _), (1, _), (2, _)] [] _ _ _ _
  refine J_aload_n dX0_takesRedAhead_0 rfl rfl ?_
  refine J_bipush (v := 6) dX0_takesRedAhead_1 (by decide) ?_
  refine J_iload_n dX0_takesRedAhead_3 rfl rfl ?_
  refine J_callVr (As := [_, _]) dX0_takesRedAhead_4 ml_X0_75 cal_X0_of im_X0_of se_X0_of (hF.at 0 rfl) rfl rfl rfl (Nat.le_of_ble_eq_true rfl) ⟨by decide, by decide⟩ ⟨by decide, by decide⟩ (c_X0_of (q := 6) hst hF hn h12 rfl (by decide) hx hi) ?_
  refine J_aload_n dX0_takesRedAhead_7 rfl rfl ?_
  refine J_bipush (v := 6) dX0_takesRedAhead_8 (by decide) ?_
  refine J_iload_n dX0_takesRedAhead_10 rfl rfl ?_
  refine J_callVr (As := [_, _]) dX0_takesRedAhead_11 ml_X0_75 cal_X0_of im_X0_of se_X0_of (hF.at 0 rfl) rfl rfl rfl (Nat.le_of_ble_eq_true rfl) ⟨by decide, by decide⟩ ⟨by decide, by decide⟩ (c_X0_of (q := 6) hst hF hn h12 rfl (by decide) hy hj) ?_
  refine J_icmp_eq (tgt := 40) dX0_takesRedAhead_14 rfl (fun h14 => ?_) (fun h14 => ?_)
  · refine J_aload_n dX0_takesRedAhead_40 rfl rfl ?_
    refine J_bipush (v := 9) dX0_takesRedAhead_41 (by decide) ?_
    refine J_iload_n dX0_takesRedAhead_43 rfl rfl ?_
    refine J_callVr (As := [_, _]) dX0_takesRedAhead_44 ml_X0_75 cal_X0_of im_X0_of se_X0_of (hF.at 0 rfl) rfl rfl rfl (Nat.le_of_ble_eq_true rfl) ⟨by decide, by decide⟩ ⟨by decide, by decide⟩ (c_X0_of (q := 9) hst hF hn h12 rfl (by decide) hx hi) ?_
    refine J_aload_n dX0_takesRedAhead_47 rfl rfl ?_
    refine J_bipush (v := 9) dX0_takesRedAhead_48 (by decide) ?_
    refine J_iload_n dX0_takesRedAhead_50 rfl rfl ?_
    refine J_callVr (As := [_, _]) dX0_takesRedAhead_51 ml_X0_75 cal_X0_of im_X0_of se_X0_of (hF.at 0 rfl) rfl rfl rfl (Nat.le_of_ble_eq_true rfl) ⟨by decide, by decide⟩ ⟨by decide, by decide⟩ (c_X0_of (q := 9) hst hF hn h12 rfl (by decide) hy hj) ?_
    refine J_icmp_lt (tgt := 61) dX0_takesRedAhead_54 rfl (fun h54 => ?_) (fun h54 => ?_)
    · refine J_iconst (v := 0) dX0_takesRedAhead_61 (by decide) ?_
      refine J_ireturn dX0_takesRedAhead_62 rfl rfl (by decide) (by decide) ?_
      exact ⟨by unfold xx_b; split <;> first | rfl | (exfalso; rename_i hz; revert hz; rw [redB_eq]; unfold redA; simp_all [i_lt, i_le]; try omega), rfl, rfl⟩
    · refine J_iconst (v := 1) dX0_takesRedAhead_57 (by decide) ?_
      refine J_goto (tgt := 62) dX0_takesRedAhead_58 rfl ?_
      refine J_ireturn dX0_takesRedAhead_62 rfl rfl (by decide) (by decide) ?_
      exact ⟨by unfold xx_b; split <;> first | rfl | (exfalso; rename_i hz; revert hz; rw [redB_eq]; unfold redA; simp_all [i_lt, i_le]; try omega), rfl, rfl⟩
  · refine J_aload_n dX0_takesRedAhead_17 rfl rfl ?_
    refine J_bipush (v := 6) dX0_takesRedAhead_18 (by decide) ?_
    refine J_iload_n dX0_takesRedAhead_20 rfl rfl ?_
    refine J_callVr (As := [_, _]) dX0_takesRedAhead_21 ml_X0_75 cal_X0_of im_X0_of se_X0_of (hF.at 0 rfl) rfl rfl rfl (Nat.le_of_ble_eq_true rfl) ⟨by decide, by decide⟩ ⟨by decide, by decide⟩ (c_X0_of (q := 6) hst hF hn h12 rfl (by decide) hx hi) ?_
    refine J_aload_n dX0_takesRedAhead_24 rfl rfl ?_
    refine J_bipush (v := 6) dX0_takesRedAhead_25 (by decide) ?_
    refine J_iload_n dX0_takesRedAhead_27 rfl rfl ?_
    refine J_callVr (As := [_, _]) dX0_takesRedAhead_28 ml_X0_75 cal_X0_of im_X0_of se_X0_of (hF.at 0 rfl) rfl rfl rfl (Nat.le_of_ble_eq_true rfl) ⟨by decide, by decide⟩ ⟨by decide, by decide⟩ (c_X0_of (q := 6) hst hF hn h12 rfl (by decide) hy hj) ?_
    refine J_icmp_ge (tgt := 38) dX0_takesRedAhead_31 rfl (fun h31 => ?_) (fun h31 => ?_)
    · refine J_iconst (v := 0) dX0_takesRedAhead_38 (by decide) ?_
      refine J_ireturn dX0_takesRedAhead_39 rfl rfl (by decide) (by decide) ?_
      exact ⟨by unfold xx_b; split <;> first | rfl | (exfalso; rename_i hz; revert hz; rw [redB_eq]; unfold redA; simp_all [i_lt, i_le]; try omega), rfl, rfl⟩
    · refine J_iconst (v := 1) dX0_takesRedAhead_34 (by decide) ?_
      refine J_goto (tgt := 39) dX0_takesRedAhead_35 rfl ?_
      refine J_ireturn dX0_takesRedAhead_39 rfl rfl (by decide) (by decide) ?_
      exact ⟨by unfold xx_b; split <;> first | rfl | (exfalso; rename_i hz; revert hz; rw [redB_eq]; unfold redA; simp_all [i_lt, i_le]; try omega), rfl, rfl⟩
theorem c_X0_tellDraw (hst : l.stackTraces = false) (hF : xx_w b (layF b F) A) {nw : Nat} (hn : F.1 0 = nI nw) (h12 : nw ≤ 12) {i : Nat} {x : Int32} (hx : x = nI i) (hi : i < nw) : xx_C G l yX0_tellDraw mX0_tellDraw 3 68 0 0 [.ref b, .int x] A n (xx_wr none n (fun A' => xx_w b (layF b (drawF F i)) A' ∧ xx_same b (b + 9) A A')) := by
  refine J_C hst (by decide +kernel) rfl rfl rfl (Nat.le_of_ble_eq_true rfl) ?_
  show xx_J _ _ _ _ _ _ _ _ 0 [(0, _), (1, _)] [] _ _ _ _
  refine J_aload_n dX0_tellDraw_0 rfl rfl ?_
  refine J_iconst (v := 3) dX0_tellDraw_1 (by decide) ?_
  refine J_iload_n dX0_tellDraw_2 rfl rfl ?_
  refine J_iconst (v := 1) dX0_tellDraw_3 (by decide) ?_
  refine J_callVw (As := [_, _, _]) dX0_tellDraw_4 ml_X0_126 cal_X0_add im_X0_add se_X0_add (hF.at 0 rfl) rfl rfl rfl (Nat.le_of_ble_eq_true rfl) ⟨by decide, by decide⟩ ⟨by decide, by decide⟩ (c_X0_add (q := 3) hst hF hn h12 rfl (by decide) hx hi _) (fun A1 hQ1 => ?_)
  skip
  refine J_aload_n dX0_tellDraw_7 rfl rfl ?_
  refine J_iconst (v := 1) dX0_tellDraw_8 (by decide) ?_
  refine J_iload_n dX0_tellDraw_9 rfl rfl ?_
  refine J_aload_n dX0_tellDraw_10 rfl rfl ?_
  refine J_getf dX0_tellDraw_11 fl_X0_18 (hQ1.1.at 0 rfl) rfl ?_
  refine J_iconst (v := 1) dX0_tellDraw_14 (by decide) ?_
  refine J_ialdN 1 dX0_tellDraw_15 (hQ1.1.at 1 rfl) rfl (by decide) (by decide) ?_
  refine J_callVw (As := [_, _, _]) dX0_tellDraw_16 ml_X0_126 cal_X0_add im_X0_add se_X0_add (hQ1.1.at 0 rfl) rfl rfl rfl (Nat.le_of_ble_eq_true rfl) ⟨by decide, by decide⟩ ⟨by decide, by decide⟩ (c_X0_add (q := 1) hst hQ1.1 hn h12 rfl (by decide) hx hi _) (fun A2 hQ2 => ?_)
  skip
  refine J_return dX0_tellDraw_19 rfl (by decide) (by decide) ?_
  exact ⟨rfl, rfl, hQ2.1, (((xx_same.rf (b := b) (e := b + 9)).trans hQ1.2).trans hQ2.2)⟩
theorem c_X0_tellOutcome (hst : l.stackTraces = false) (hF : xx_w b (layF b F) A) {nw : Nat} (hn : F.1 0 = nI nw) (h12 : nw ≤ 12) {nb : Nat} (hb : F.1 5 = nI nb) (h6 : nb ≤ 6) {q : Nat} {x : Int32} (hx : x = nI q) (hq : q < nb) {i j : Nat} (hr : F.2 4 q = nI i) (hi : i < nw) (hl : F.2 5 q = nI j) (hj : j < nw) {v : Int32} (hv : v = 0 ∨ v = 1 ∨ v = 2) : xx_C G l yX0_tellOutcome mX0_tellOutcome 4 89 0 0 [.ref b, .int x, .int v] A n (xx_wr none n (fun A' => xx_w b (layF b (tellF F q i j v)) A' ∧ xx_same b (b + 9) A A')) := by
  subst hx
  refine J_C hst (by decide +kernel) rfl rfl rfl (Nat.le_of_ble_eq_true rfl) ?_
  show xx_J _ _ _ _ _ _ _ _ 0 [(0, _), (1, _), (2, _)] [] _ _ _ _
  refine J_aload_n dX0_tellOutcome_0 rfl rfl ?_
  refine J_iload_n dX0_tellOutcome_1 rfl rfl ?_
  refine J_callVr (As := [_]) dX0_tellOutcome_2 ml_X0_82 cal_X0_hasBout im_X0_hasBout se_X0_hasBout (hF.at 0 rfl) rfl rfl rfl (Nat.le_of_ble_eq_true rfl) ⟨by decide, by decide⟩ ⟨by decide, by decide⟩ (c_X0_hasBout hst hF _) ?_
  refine J_ifb_ne (tgt := 9) dX0_tellOutcome_5 rfl (fun h5 => ?_) (fun h5 => ?_)
  · refine J_aload_n dX0_tellOutcome_9 rfl rfl ?_
    refine J_getf dX0_tellOutcome_10 fl_X0_37 (hF.at 0 rfl) rfl ?_
    refine J_iload_n dX0_tellOutcome_13 rfl rfl ?_
    refine J_iload_n dX0_tellOutcome_14 rfl rfl ?_
    refine J_iastN q dX0_tellOutcome_15 (hF.at 6 rfl) rfl (by omega) (by decide) ?_
    refine J_gen (wF_a6 hF _) ((xx_same.rf (b := b) (e := b + 9)).put (by omega) (by omega) _) (fun A1 w1 s1 o1 => ?_)
    refine J_iload_n dX0_tellOutcome_16 rfl rfl ?_
    refine J_iconst (v := 1) dX0_tellOutcome_17 (by decide) ?_
    refine J_icmp_ne (tgt := 44) dX0_tellOutcome_18 rfl (fun h18 => ?_) (fun h18 => ?_)
    · refine J_iload_n dX0_tellOutcome_44 rfl rfl ?_
      refine J_if_ne (tgt := 52) dX0_tellOutcome_45 rfl (fun h45 => ?_) (fun h45 => ?_)
      · refine J_iconst (v := 0) dX0_tellOutcome_52 (by decide) ?_
        refine J_istore_n (L' := [(3, _), (0, _), (1, _), (2, _)]) dX0_tellOutcome_53 rfl (by decide) rfl ?_
        refine J_aload_n dX0_tellOutcome_54 rfl rfl ?_
        refine J_iconst (v := 2) dX0_tellOutcome_55 (by decide) ?_
        refine J_iload_n dX0_tellOutcome_56 rfl rfl ?_
        refine J_if_eq (tgt := 69) dX0_tellOutcome_57 rfl (fun h57 => ?_) (fun h57 => ?_)
        · refine J_aload_n dX0_tellOutcome_69 rfl rfl ?_
          refine J_getf dX0_tellOutcome_70 fl_X0_34 (w1.at 0 rfl) rfl ?_
          refine J_iload_n dX0_tellOutcome_73 rfl rfl ?_
          refine J_ialdN q dX0_tellOutcome_74 (w1.at 5 rfl) rfl (by omega) (by decide) ?_
          refine J_iconst (v := 1) dX0_tellOutcome_75 (by decide) ?_
          refine J_callVw (As := [_, _, _]) dX0_tellOutcome_76 ml_X0_126 cal_X0_add im_X0_add se_X0_add (w1.at 0 rfl) rfl rfl rfl (Nat.le_of_ble_eq_true rfl) ⟨by decide, by decide⟩ ⟨by decide, by decide⟩ (c_X0_add (q := 2) hst w1 hn h12 rfl (by decide) (by first | exact hr | exact hl) (by assumption) _) (fun A2 hQ2 => ?_)
          skip
          refine J_aload_n dX0_tellOutcome_79 rfl rfl ?_
          refine J_iconst (v := 1) dX0_tellOutcome_80 (by decide) ?_
          refine J_iload_n dX0_tellOutcome_81 rfl rfl ?_
          refine J_if_eq (tgt := 94) dX0_tellOutcome_82 rfl (fun h82 => ?_) (fun h82 => ?_)
          · refine J_aload_n dX0_tellOutcome_94 rfl rfl ?_
            refine J_getf dX0_tellOutcome_95 fl_X0_34 (hQ2.1.at 0 rfl) rfl ?_
            refine J_iload_n dX0_tellOutcome_98 rfl rfl ?_
            refine J_ialdN q dX0_tellOutcome_99 (hQ2.1.at 5 rfl) rfl (by omega) (by decide) ?_
            refine J_aload_n dX0_tellOutcome_100 rfl rfl ?_
            refine J_getf dX0_tellOutcome_101 fl_X0_18 (hQ2.1.at 0 rfl) rfl ?_
            refine J_iconst (v := 0) dX0_tellOutcome_104 (by decide) ?_
            refine J_ialdN 0 dX0_tellOutcome_105 (hQ2.1.at 1 rfl) rfl (by decide) (by decide) ?_
            refine J_callVw (As := [_, _, _]) dX0_tellOutcome_106 ml_X0_126 cal_X0_add im_X0_add se_X0_add (hQ2.1.at 0 rfl) rfl rfl rfl (Nat.le_of_ble_eq_true rfl) ⟨by decide, by decide⟩ ⟨by decide, by decide⟩ (c_X0_add (q := 1) hst hQ2.1 hn h12 rfl (by decide) (by first | exact hr | exact hl) (by assumption) _) (fun A3 hQ3 => ?_)
            skip
            refine J_aload_n dX0_tellOutcome_109 rfl rfl ?_
            refine J_iconst (v := 4) dX0_tellOutcome_110 (by decide) ?_
            refine J_iload_n dX0_tellOutcome_111 rfl rfl ?_
            refine J_if_eq (tgt := 124) dX0_tellOutcome_112 rfl (fun h112 => ?_) (fun h112 => ?_)
            · refine J_aload_n dX0_tellOutcome_124 rfl rfl ?_
              refine J_getf dX0_tellOutcome_125 fl_X0_31 (hQ3.1.at 0 rfl) rfl ?_
              refine J_iload_n dX0_tellOutcome_128 rfl rfl ?_
              refine J_ialdN q dX0_tellOutcome_129 (hQ3.1.at 4 rfl) rfl (by omega) (by decide) ?_
              refine J_iconst (v := 1) dX0_tellOutcome_130 (by decide) ?_
              refine J_callVw (As := [_, _, _]) dX0_tellOutcome_131 ml_X0_126 cal_X0_add im_X0_add se_X0_add (hQ3.1.at 0 rfl) rfl rfl rfl (Nat.le_of_ble_eq_true rfl) ⟨by decide, by decide⟩ ⟨by decide, by decide⟩ (c_X0_add (q := 4) hst hQ3.1 hn h12 rfl (by decide) (by first | exact hr | exact hl) (by assumption) _) (fun A4 hQ4 => ?_)
              skip
              refine J_return dX0_tellOutcome_134 rfl (by decide) (by decide) ?_
              refine ⟨rfl, rfl, ?_, (((s1.trans hQ2.2).trans hQ3.2).trans hQ4.2)⟩
              unfold tellF
              first | (rw [if_pos h18]; exact hQ4.1) | (rw [if_neg h18, if_pos h45]; exact hQ4.1) | (rw [if_neg h18, if_neg h45]; exact hQ4.1)
            · first | exact absurd h112 (by decide) | exact absurd (by decide) h112
          · first | exact absurd h82 (by decide) | exact absurd (by decide) h82
        · first | exact absurd h57 (by decide) | exact absurd (by decide) h57
      · refine J_iconst (v := 1) dX0_tellOutcome_48 (by decide) ?_
        refine J_goto (tgt := 53) dX0_tellOutcome_49 rfl ?_
        refine J_istore_n (L' := [(3, _), (0, _), (1, _), (2, _)]) dX0_tellOutcome_53 rfl (by decide) rfl ?_
        refine J_aload_n dX0_tellOutcome_54 rfl rfl ?_
        refine J_iconst (v := 2) dX0_tellOutcome_55 (by decide) ?_
        refine J_iload_n dX0_tellOutcome_56 rfl rfl ?_
        refine J_if_eq (tgt := 69) dX0_tellOutcome_57 rfl (fun h57 => ?_) (fun h57 => ?_)
        · first | exact absurd h57 (by decide) | exact absurd (by decide) h57
        · refine J_aload_n dX0_tellOutcome_60 rfl rfl ?_
          refine J_getf dX0_tellOutcome_61 fl_X0_31 (w1.at 0 rfl) rfl ?_
          refine J_iload_n dX0_tellOutcome_64 rfl rfl ?_
          refine J_ialdN q dX0_tellOutcome_65 (w1.at 4 rfl) rfl (by omega) (by decide) ?_
          refine J_goto (tgt := 75) dX0_tellOutcome_66 rfl ?_
          refine J_iconst (v := 1) dX0_tellOutcome_75 (by decide) ?_
          refine J_callVw (As := [_, _, _]) dX0_tellOutcome_76 ml_X0_126 cal_X0_add im_X0_add se_X0_add (w1.at 0 rfl) rfl rfl rfl (Nat.le_of_ble_eq_true rfl) ⟨by decide, by decide⟩ ⟨by decide, by decide⟩ (c_X0_add (q := 2) hst w1 hn h12 rfl (by decide) (by first | exact hr | exact hl) (by assumption) _) (fun A5 hQ5 => ?_)
          skip
          refine J_aload_n dX0_tellOutcome_79 rfl rfl ?_
          refine J_iconst (v := 1) dX0_tellOutcome_80 (by decide) ?_
          refine J_iload_n dX0_tellOutcome_81 rfl rfl ?_
          refine J_if_eq (tgt := 94) dX0_tellOutcome_82 rfl (fun h82 => ?_) (fun h82 => ?_)
          · first | exact absurd h82 (by decide) | exact absurd (by decide) h82
          · refine J_aload_n dX0_tellOutcome_85 rfl rfl ?_
            refine J_getf dX0_tellOutcome_86 fl_X0_31 (hQ5.1.at 0 rfl) rfl ?_
            refine J_iload_n dX0_tellOutcome_89 rfl rfl ?_
            refine J_ialdN q dX0_tellOutcome_90 (hQ5.1.at 4 rfl) rfl (by omega) (by decide) ?_
            refine J_goto (tgt := 100) dX0_tellOutcome_91 rfl ?_
            refine J_aload_n dX0_tellOutcome_100 rfl rfl ?_
            refine J_getf dX0_tellOutcome_101 fl_X0_18 (hQ5.1.at 0 rfl) rfl ?_
            refine J_iconst (v := 0) dX0_tellOutcome_104 (by decide) ?_
            refine J_ialdN 0 dX0_tellOutcome_105 (hQ5.1.at 1 rfl) rfl (by decide) (by decide) ?_
            refine J_callVw (As := [_, _, _]) dX0_tellOutcome_106 ml_X0_126 cal_X0_add im_X0_add se_X0_add (hQ5.1.at 0 rfl) rfl rfl rfl (Nat.le_of_ble_eq_true rfl) ⟨by decide, by decide⟩ ⟨by decide, by decide⟩ (c_X0_add (q := 1) hst hQ5.1 hn h12 rfl (by decide) (by first | exact hr | exact hl) (by assumption) _) (fun A6 hQ6 => ?_)
            skip
            refine J_aload_n dX0_tellOutcome_109 rfl rfl ?_
            refine J_iconst (v := 4) dX0_tellOutcome_110 (by decide) ?_
            refine J_iload_n dX0_tellOutcome_111 rfl rfl ?_
            refine J_if_eq (tgt := 124) dX0_tellOutcome_112 rfl (fun h112 => ?_) (fun h112 => ?_)
            · first | exact absurd h112 (by decide) | exact absurd (by decide) h112
            · refine J_aload_n dX0_tellOutcome_115 rfl rfl ?_
              refine J_getf dX0_tellOutcome_116 fl_X0_34 (hQ6.1.at 0 rfl) rfl ?_
              refine J_iload_n dX0_tellOutcome_119 rfl rfl ?_
              refine J_ialdN q dX0_tellOutcome_120 (hQ6.1.at 5 rfl) rfl (by omega) (by decide) ?_
              refine J_goto (tgt := 130) dX0_tellOutcome_121 rfl ?_
              refine J_iconst (v := 1) dX0_tellOutcome_130 (by decide) ?_
              refine J_callVw (As := [_, _, _]) dX0_tellOutcome_131 ml_X0_126 cal_X0_add im_X0_add se_X0_add (hQ6.1.at 0 rfl) rfl rfl rfl (Nat.le_of_ble_eq_true rfl) ⟨by decide, by decide⟩ ⟨by decide, by decide⟩ (c_X0_add (q := 4) hst hQ6.1 hn h12 rfl (by decide) (by first | exact hr | exact hl) (by assumption) _) (fun A7 hQ7 => ?_)
              skip
              refine J_return dX0_tellOutcome_134 rfl (by decide) (by decide) ?_
              refine ⟨rfl, rfl, ?_, (((s1.trans hQ5.2).trans hQ6.2).trans hQ7.2)⟩
              unfold tellF
              first | (rw [if_pos h18]; exact hQ7.1) | (rw [if_neg h18, if_pos h45]; exact hQ7.1) | (rw [if_neg h18, if_neg h45]; exact hQ7.1)
    · refine J_aload_n dX0_tellOutcome_21 rfl rfl ?_
      refine J_aload_n dX0_tellOutcome_22 rfl rfl ?_
      refine J_getf dX0_tellOutcome_23 fl_X0_31 (w1.at 0 rfl) rfl ?_
      refine J_iload_n dX0_tellOutcome_26 rfl rfl ?_
      refine J_ialdN q dX0_tellOutcome_27 (w1.at 4 rfl) rfl (by omega) (by decide) ?_
      refine J_callVw (As := [_]) dX0_tellOutcome_28 ml_X0_136 cal_X0_tellDraw im_X0_tellDraw se_X0_tellDraw (w1.at 0 rfl) rfl rfl rfl (Nat.le_of_ble_eq_true rfl) ⟨by decide, by decide⟩ ⟨by decide, by decide⟩ (c_X0_tellDraw hst w1 hn h12 hr hi) (fun A8 hQ8 => ?_)
      skip
      refine J_aload_n dX0_tellOutcome_31 rfl rfl ?_
      refine J_aload_n dX0_tellOutcome_32 rfl rfl ?_
      refine J_getf dX0_tellOutcome_33 fl_X0_34 (hQ8.1.at 0 rfl) rfl ?_
      refine J_iload_n dX0_tellOutcome_36 rfl rfl ?_
      refine J_ialdN q dX0_tellOutcome_37 (hQ8.1.at 5 rfl) rfl (by omega) (by decide) ?_
      refine J_callVw (As := [_]) dX0_tellOutcome_38 ml_X0_136 cal_X0_tellDraw im_X0_tellDraw se_X0_tellDraw (hQ8.1.at 0 rfl) rfl rfl rfl (Nat.le_of_ble_eq_true rfl) ⟨by decide, by decide⟩ ⟨by decide, by decide⟩ (c_X0_tellDraw hst hQ8.1 hn h12 hl hj) (fun A9 hQ9 => ?_)
      skip
      refine J_goto (tgt := 134) dX0_tellOutcome_41 rfl ?_
      refine J_return dX0_tellOutcome_134 rfl (by decide) (by decide) ?_
      refine ⟨rfl, rfl, ?_, ((s1.trans hQ8.2).trans hQ9.2)⟩
      unfold tellF
      first | (rw [if_pos h18]; exact hQ9.1) | (rw [if_neg h18, if_pos h45]; exact hQ9.1) | (rw [if_neg h18, if_neg h45]; exact hQ9.1)
  · exact absurd (b_in6 hb h6 hq) h5
end XFD
