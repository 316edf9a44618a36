/-! THE LAW'S OWN METHODS: a call of the class, and what it throws as a number -/
section XLA
variable {G : xx_G} {l : Launch} {A A' : xx_H} {n b ho : Nat} {f0 : Nat → Int64} {a : Ans} {K : xx_H → Prop}
theorem ca_IO : Cond.castable eIO eIO ∈ xx_N := List.mem_filter.mpr ⟨by decide +kernel, rfl⟩
theorem ca_IA : Cond.castable eIA eIA ∈ xx_N := List.mem_filter.mpr ⟨by decide +kernel, rfl⟩
theorem ca_IS : Cond.castable eIS eIS ∈ xx_N := List.mem_filter.mpr ⟨by decide +kernel, rfl⟩
theorem ans_v {ex : Int32 → String} {v : Option Value} (h : (.inl v : xx_R) = ansR ex a) : a.1 = 0 ∧ v = some (.int a.2) := by
  unfold ansR at h
  by_cases c : a.1 = 0
  · rw [if_pos c] at h; cases h; exact ⟨c, rfl⟩
  · rw [if_neg c] at h; cases h
theorem ans_x {ex : Int32 → String} {E : String} (h : (.inr E : xx_R) = ansR ex a) : ¬ a.1 = 0 ∧ E = ex a.1 := by
  unfold ansR at h
  by_cases c : a.1 = 0
  · rw [if_pos c] at h; cases h
  · rw [if_neg c] at h; cases h; exact ⟨c, rfl⟩
/-- only cell ho has changed -/
def xx_o1 (ho : Nat) (A0 A : xx_H) : Prop := ∀ z, ¬ z = ho → A z = A0 z
theorem xx_o1.rf : xx_o1 ho A A := fun _ _ => rfl
theorem xx_o1.put {A0 : xx_H} {q : Nat} (h : xx_o1 ho A0 A) (hq : q = ho) (_ : 0 = 0) (c : va_E) : xx_o1 ho A0 (xx_up A q c) := fun z hz => by rw [xx_up_n _ _ (by omega)]; exact h z hz
theorem wO_a0 {f : Nat → Int64} (h : xx_w ho [(0, .inl (3, 1, .inr (.inl f)))] A) (g : Nat → Int64) : xx_w ho [(0, .inl (3, 1, .inr (.inl g)))] (xx_up A (ho + 0) (.inl (3, 1, .inr (.inl g)))) := h.put 0 _ rfl rfl
/-- the kind of throw, the answer in the row out -/
def wQ (a : Ans) (n ho : Nat) (K : xx_H → Prop) : xx_Q := fun r A' n' => r = .inl (some (.int a.1)) ∧ n ≤ n' ∧ n' ≤ n + 1 ∧ ∃ A1 f', K A1 ∧ xx_o1 ho A1 A' ∧ xx_w ho [(0, .inl (3, 1, .inr (.inl f')))] A' ∧ (a.1 = 0 → f' 0 = a.2.toInt64)
theorem c_L_beltsOf (hst : l.stackTraces = false) {p0 : Int32} (hC : xx_C G l yX6_beltsOf mX6_beltsOf 7 111 1 6 [.ref b, .int p0] A n (xQ (exA eIO) a n K)) (hX : xx_w b (layX b) A) (hO : xx_w ho [(0, .inl (3, 1, .inr (.inl f0)))] A) (hk : ∀ A1, K A1 → xx_w ho [(0, .inl (3, 1, .inr (.inl f0)))] A1) (hex : a.1 = 0 ∨ a.1 = 1) : xx_C G l yL_beltsOf mL_beltsOf 8 132 1 6 [.ref b, .int p0, .ref ho] A n (wQ a n ho K) := by
  refine J_CH hst (by decide +kernel) rfl rfl rfl (Nat.le_of_ble_eq_true rfl) ?_
  show xx_J _ _ _ _ _ _ _ _ 0 [(0, _), (1, _), (2, _)] [] _ _ _ _
  refine J_aload_n dL_beltsOf_0 rfl rfl ?_
  refine J_iconst (v := 0) dL_beltsOf_1 (by decide) ?_
  refine J_aload_n dL_beltsOf_2 rfl rfl ?_
  refine J_iload_n dL_beltsOf_3 rfl rfl ?_
  refine J_callV (As := [_]) dL_beltsOf_4 ml_L_41 cal_X6_beltsOf im_X6_beltsOf se_X6_beltsOf (hX.at 0 rfl) rfl rfl rfl (Nat.le_of_ble_eq_true rfl) ⟨by decide, by decide⟩ ⟨by decide, by decide⟩ (hC) (fun E1 A1 n1 _ hQ1 => ?_) (fun v1 A1 n1 _ hQ1 => ?_)
  · obtain ⟨en1, er1, hK1⟩ := hQ1
    have en1 := en1.symm
    subst en1
    obtain ⟨h0, ev1⟩ := ans_x er1
    have hO1 := hk A1 hK1
    rcases hex with z | z
    · exact absurd z h0
    · have eE1 : E1 = eIO := by first | (rw [ev1, z]; done) | (rw [ev1, z]; rfl)
      subst eE1
      refine JX_catch (name := eIO) [] ⟨0, 9, 12, 24⟩ [] rfl (fun z hz => nomatch hz) (by decide) (by decide) cl_L_24 ca_IO ?_
      refine J_astore_n (L' := [(3, _), (0, _), (1, _), (2, _)]) dL_beltsOf_12 rfl (by decide) rfl ?_
      refine J_iconst (v := 1) dL_beltsOf_13 (by decide) ?_
      refine J_ireturn dL_beltsOf_14 rfl rfl (by decide) (by decide) ?_
      exact ⟨by rw [z], by omega, by omega, A1, _, hK1, xx_o1.rf, hO1, fun y => absurd y h0⟩
  · obtain ⟨en1, er1, hK1⟩ := hQ1
    have en1 := en1.symm
    subst en1
    obtain ⟨h0, ev1⟩ := ans_v er1
    subst ev1
    have hO1 := hk A1 hK1
    refine J_i2l dL_beltsOf_7 rfl ?_
    refine J_lastN 0 dL_beltsOf_8 (hO1.at 0 rfl) rfl (by omega) (by decide) ?_
    refine J_genA (wO_a0 hO1 _) ((xx_o1.rf (ho := ho)).put (by omega) (by omega) _) (fun A2 w2 s2 o2 => ?_)
    refine J_goto (tgt := 15) dL_beltsOf_9 rfl ?_
    refine J_iconst (v := 0) dL_beltsOf_15 (by decide) ?_
    refine J_ireturn dL_beltsOf_16 rfl rfl (by decide) (by decide) ?_
    exact ⟨by rw [h0], by omega, by omega, A1, _, hK1, s2, w2, fun _ => rfl⟩
theorem c_L_blueOf (hst : l.stackTraces = false) {p0 : Int32} (hC : xx_C G l yX6_blueOf mX6_blueOf 7 111 1 6 [.ref b, .int p0] A n (xQ (exA eIO) a n K)) (hX : xx_w b (layX b) A) (hO : xx_w ho [(0, .inl (3, 1, .inr (.inl f0)))] A) (hk : ∀ A1, K A1 → xx_w ho [(0, .inl (3, 1, .inr (.inl f0)))] A1) (hex : a.1 = 0 ∨ a.1 = 1) : xx_C G l yL_blueOf mL_blueOf 8 132 1 6 [.ref b, .int p0, .ref ho] A n (wQ a n ho K) := by
  refine J_CH hst (by decide +kernel) rfl rfl rfl (Nat.le_of_ble_eq_true rfl) ?_
  show xx_J _ _ _ _ _ _ _ _ 0 [(0, _), (1, _), (2, _)] [] _ _ _ _
  refine J_aload_n dL_blueOf_0 rfl rfl ?_
  refine J_iconst (v := 0) dL_blueOf_1 (by decide) ?_
  refine J_aload_n dL_blueOf_2 rfl rfl ?_
  refine J_iload_n dL_blueOf_3 rfl rfl ?_
  refine J_callV (As := [_]) dL_blueOf_4 ml_L_67 cal_X6_blueOf im_X6_blueOf se_X6_blueOf (hX.at 0 rfl) rfl rfl rfl (Nat.le_of_ble_eq_true rfl) ⟨by decide, by decide⟩ ⟨by decide, by decide⟩ (hC) (fun E1 A1 n1 _ hQ1 => ?_) (fun v1 A1 n1 _ hQ1 => ?_)
  · obtain ⟨en1, er1, hK1⟩ := hQ1
    have en1 := en1.symm
    subst en1
    obtain ⟨h0, ev1⟩ := ans_x er1
    have hO1 := hk A1 hK1
    rcases hex with z | z
    · exact absurd z h0
    · have eE1 : E1 = eIO := by first | (rw [ev1, z]; done) | (rw [ev1, z]; rfl)
      subst eE1
      refine JX_catch (name := eIO) [] ⟨0, 9, 12, 24⟩ [] rfl (fun z hz => nomatch hz) (by decide) (by decide) cl_L_24 ca_IO ?_
      refine J_astore_n (L' := [(3, _), (0, _), (1, _), (2, _)]) dL_blueOf_12 rfl (by decide) rfl ?_
      refine J_iconst (v := 1) dL_blueOf_13 (by decide) ?_
      refine J_ireturn dL_blueOf_14 rfl rfl (by decide) (by decide) ?_
      exact ⟨by rw [z], by omega, by omega, A1, _, hK1, xx_o1.rf, hO1, fun y => absurd y h0⟩
  · obtain ⟨en1, er1, hK1⟩ := hQ1
    have en1 := en1.symm
    subst en1
    obtain ⟨h0, ev1⟩ := ans_v er1
    subst ev1
    have hO1 := hk A1 hK1
    refine J_i2l dL_blueOf_7 rfl ?_
    refine J_lastN 0 dL_blueOf_8 (hO1.at 0 rfl) rfl (by omega) (by decide) ?_
    refine J_genA (wO_a0 hO1 _) ((xx_o1.rf (ho := ho)).put (by omega) (by omega) _) (fun A2 w2 s2 o2 => ?_)
    refine J_goto (tgt := 15) dL_blueOf_9 rfl ?_
    refine J_iconst (v := 0) dL_blueOf_15 (by decide) ?_
    refine J_ireturn dL_blueOf_16 rfl rfl (by decide) (by decide) ?_
    exact ⟨by rw [h0], by omega, by omega, A1, _, hK1, s2, w2, fun _ => rfl⟩
theorem c_L_drawsOf (hst : l.stackTraces = false) {p0 : Int32} (hC : xx_C G l yX6_drawsOf mX6_drawsOf 7 111 1 6 [.ref b, .int p0] A n (xQ (exA eIO) a n K)) (hX : xx_w b (layX b) A) (hO : xx_w ho [(0, .inl (3, 1, .inr (.inl f0)))] A) (hk : ∀ A1, K A1 → xx_w ho [(0, .inl (3, 1, .inr (.inl f0)))] A1) (hex : a.1 = 0 ∨ a.1 = 1) : xx_C G l yL_drawsOf mL_drawsOf 8 132 1 6 [.ref b, .int p0, .ref ho] A n (wQ a n ho K) := by
  refine J_CH hst (by decide +kernel) rfl rfl rfl (Nat.le_of_ble_eq_true rfl) ?_
  show xx_J _ _ _ _ _ _ _ _ 0 [(0, _), (1, _), (2, _)] [] _ _ _ _
  refine J_aload_n dL_drawsOf_0 rfl rfl ?_
  refine J_iconst (v := 0) dL_drawsOf_1 (by decide) ?_
  refine J_aload_n dL_drawsOf_2 rfl rfl ?_
  refine J_iload_n dL_drawsOf_3 rfl rfl ?_
  refine J_callV (As := [_]) dL_drawsOf_4 ml_L_32 cal_X6_drawsOf im_X6_drawsOf se_X6_drawsOf (hX.at 0 rfl) rfl rfl rfl (Nat.le_of_ble_eq_true rfl) ⟨by decide, by decide⟩ ⟨by decide, by decide⟩ (hC) (fun E1 A1 n1 _ hQ1 => ?_) (fun v1 A1 n1 _ hQ1 => ?_)
  · obtain ⟨en1, er1, hK1⟩ := hQ1
    have en1 := en1.symm
    subst en1
    obtain ⟨h0, ev1⟩ := ans_x er1
    have hO1 := hk A1 hK1
    rcases hex with z | z
    · exact absurd z h0
    · have eE1 : E1 = eIO := by first | (rw [ev1, z]; done) | (rw [ev1, z]; rfl)
      subst eE1
      refine JX_catch (name := eIO) [] ⟨0, 9, 12, 24⟩ [] rfl (fun z hz => nomatch hz) (by decide) (by decide) cl_L_24 ca_IO ?_
      refine J_astore_n (L' := [(3, _), (0, _), (1, _), (2, _)]) dL_drawsOf_12 rfl (by decide) rfl ?_
      refine J_iconst (v := 1) dL_drawsOf_13 (by decide) ?_
      refine J_ireturn dL_drawsOf_14 rfl rfl (by decide) (by decide) ?_
      exact ⟨by rw [z], by omega, by omega, A1, _, hK1, xx_o1.rf, hO1, fun y => absurd y h0⟩
  · obtain ⟨en1, er1, hK1⟩ := hQ1
    have en1 := en1.symm
    subst en1
    obtain ⟨h0, ev1⟩ := ans_v er1
    subst ev1
    have hO1 := hk A1 hK1
    refine J_i2l dL_drawsOf_7 rfl ?_
    refine J_lastN 0 dL_drawsOf_8 (hO1.at 0 rfl) rfl (by omega) (by decide) ?_
    refine J_genA (wO_a0 hO1 _) ((xx_o1.rf (ho := ho)).put (by omega) (by omega) _) (fun A2 w2 s2 o2 => ?_)
    refine J_goto (tgt := 15) dL_drawsOf_9 rfl ?_
    refine J_iconst (v := 0) dL_drawsOf_15 (by decide) ?_
    refine J_ireturn dL_drawsOf_16 rfl rfl (by decide) (by decide) ?_
    exact ⟨by rw [h0], by omega, by omega, A1, _, hK1, s2, w2, fun _ => rfl⟩
theorem c_L_feed (hst : l.stackTraces = false) {p0 : Int32} {p1 : Int32} {p2 : Int32} {p3 : Int32} {p4 : Int32} (hC : xx_C G l yX6_feed mX6_feed 6 90 1 6 [.ref b, .int p0, .int p1, .int p2, .int p3, .int p4] A n (xQ (exA eIS) a n K)) (hX : xx_w b (layX b) A) (hO : xx_w ho [(0, .inl (3, 1, .inr (.inl f0)))] A) (hk : ∀ A1, K A1 → xx_w ho [(0, .inl (3, 1, .inr (.inl f0)))] A1) (hex : a.1 = 0 ∨ a.1 = 1) : xx_C G l yL_feed mL_feed 7 115 1 6 [.ref b, .int p0, .int p1, .int p2, .int p3, .int p4, .ref ho] A n (wQ a n ho K) := by
  refine J_CH hst (by decide +kernel) rfl rfl rfl (Nat.le_of_ble_eq_true rfl) ?_
  show xx_J _ _ _ _ _ _ _ _ 0 [(0, _), (1, _), (2, _), (3, _), (4, _), (5, _), (6, _)] [] _ _ _ _
  refine J_aload dL_feed_0 rfl ?_
  refine J_iconst (v := 0) dL_feed_2 (by decide) ?_
  refine J_aload_n dL_feed_3 rfl rfl ?_
  refine J_iload_n dL_feed_4 rfl rfl ?_
  refine J_iload_n dL_feed_5 rfl rfl ?_
  refine J_iload_n dL_feed_6 rfl rfl ?_
  refine J_iload dL_feed_7 rfl ?_
  refine J_iload dL_feed_9 rfl ?_
  refine J_callV (As := [_, _, _, _, _]) dL_feed_11 ml_L_7 cal_X6_feed im_X6_feed se_X6_feed (hX.at 0 rfl) rfl rfl rfl (Nat.le_of_ble_eq_true rfl) ⟨by decide, by decide⟩ ⟨by decide, by decide⟩ (hC) (fun E1 A1 n1 _ hQ1 => ?_) (fun v1 A1 n1 _ hQ1 => ?_)
  · obtain ⟨en1, er1, hK1⟩ := hQ1
    have en1 := en1.symm
    subst en1
    obtain ⟨h0, ev1⟩ := ans_x er1
    have hO1 := hk A1 hK1
    rcases hex with z | z
    · exact absurd z h0
    · have eE1 : E1 = eIS := by first | (rw [ev1, z]; done) | (rw [ev1, z]; rfl)
      subst eE1
      refine JX_catch (name := eIS) [] ⟨0, 16, 19, 13⟩ [] rfl (fun z hz => nomatch hz) (by decide) (by decide) cl_L_13 ca_IS ?_
      refine J_astore (L' := [(7, _), (0, _), (1, _), (2, _), (3, _), (4, _), (5, _), (6, _)]) dL_feed_19 (by decide) rfl ?_
      refine J_iconst (v := 1) dL_feed_21 (by decide) ?_
      refine J_ireturn dL_feed_22 rfl rfl (by decide) (by decide) ?_
      exact ⟨by rw [z], by omega, by omega, A1, _, hK1, xx_o1.rf, hO1, fun y => absurd y h0⟩
  · obtain ⟨en1, er1, hK1⟩ := hQ1
    have en1 := en1.symm
    subst en1
    obtain ⟨h0, ev1⟩ := ans_v er1
    subst ev1
    have hO1 := hk A1 hK1
    refine J_i2l dL_feed_14 rfl ?_
    refine J_lastN 0 dL_feed_15 (hO1.at 0 rfl) rfl (by omega) (by decide) ?_
    refine J_genA (wO_a0 hO1 _) ((xx_o1.rf (ho := ho)).put (by omega) (by omega) _) (fun A2 w2 s2 o2 => ?_)
    refine J_goto (tgt := 23) dL_feed_16 rfl ?_
    refine J_iconst (v := 0) dL_feed_23 (by decide) ?_
    refine J_ireturn dL_feed_24 rfl rfl (by decide) (by decide) ?_
    exact ⟨by rw [h0], by omega, by omega, A1, _, hK1, s2, w2, fun _ => rfl⟩
theorem c_L_floatsOf (hst : l.stackTraces = false) {p0 : Int32} (hC : xx_C G l yX6_floatsOf mX6_floatsOf 7 111 1 6 [.ref b, .int p0] A n (xQ (exA eIO) a n K)) (hX : xx_w b (layX b) A) (hO : xx_w ho [(0, .inl (3, 1, .inr (.inl f0)))] A) (hk : ∀ A1, K A1 → xx_w ho [(0, .inl (3, 1, .inr (.inl f0)))] A1) (hex : a.1 = 0 ∨ a.1 = 1) : xx_C G l yL_floatsOf mL_floatsOf 8 132 1 6 [.ref b, .int p0, .ref ho] A n (wQ a n ho K) := by
  refine J_CH hst (by decide +kernel) rfl rfl rfl (Nat.le_of_ble_eq_true rfl) ?_
  show xx_J _ _ _ _ _ _ _ _ 0 [(0, _), (1, _), (2, _)] [] _ _ _ _
  refine J_aload_n dL_floatsOf_0 rfl rfl ?_
  refine J_iconst (v := 0) dL_floatsOf_1 (by decide) ?_
  refine J_aload_n dL_floatsOf_2 rfl rfl ?_
  refine J_iload_n dL_floatsOf_3 rfl rfl ?_
  refine J_callV (As := [_]) dL_floatsOf_4 ml_L_44 cal_X6_floatsOf im_X6_floatsOf se_X6_floatsOf (hX.at 0 rfl) rfl rfl rfl (Nat.le_of_ble_eq_true rfl) ⟨by decide, by decide⟩ ⟨by decide, by decide⟩ (hC) (fun E1 A1 n1 _ hQ1 => ?_) (fun v1 A1 n1 _ hQ1 => ?_)
  · obtain ⟨en1, er1, hK1⟩ := hQ1
    have en1 := en1.symm
    subst en1
    obtain ⟨h0, ev1⟩ := ans_x er1
    have hO1 := hk A1 hK1
    rcases hex with z | z
    · exact absurd z h0
    · have eE1 : E1 = eIO := by first | (rw [ev1, z]; done) | (rw [ev1, z]; rfl)
      subst eE1
      refine JX_catch (name := eIO) [] ⟨0, 9, 12, 24⟩ [] rfl (fun z hz => nomatch hz) (by decide) (by decide) cl_L_24 ca_IO ?_
      refine J_astore_n (L' := [(3, _), (0, _), (1, _), (2, _)]) dL_floatsOf_12 rfl (by decide) rfl ?_
      refine J_iconst (v := 1) dL_floatsOf_13 (by decide) ?_
      refine J_ireturn dL_floatsOf_14 rfl rfl (by decide) (by decide) ?_
      exact ⟨by rw [z], by omega, by omega, A1, _, hK1, xx_o1.rf, hO1, fun y => absurd y h0⟩
  · obtain ⟨en1, er1, hK1⟩ := hQ1
    have en1 := en1.symm
    subst en1
    obtain ⟨h0, ev1⟩ := ans_v er1
    subst ev1
    have hO1 := hk A1 hK1
    refine J_i2l dL_floatsOf_7 rfl ?_
    refine J_lastN 0 dL_floatsOf_8 (hO1.at 0 rfl) rfl (by omega) (by decide) ?_
    refine J_genA (wO_a0 hO1 _) ((xx_o1.rf (ho := ho)).put (by omega) (by omega) _) (fun A2 w2 s2 o2 => ?_)
    refine J_goto (tgt := 15) dL_floatsOf_9 rfl ?_
    refine J_iconst (v := 0) dL_floatsOf_15 (by decide) ?_
    refine J_ireturn dL_floatsOf_16 rfl rfl (by decide) (by decide) ?_
    exact ⟨by rw [h0], by omega, by omega, A1, _, hK1, s2, w2, fun _ => rfl⟩
theorem c_L_isIn (hst : l.stackTraces = false) {p0 : Int32} (hC : xx_C G l yX6_isIn mX6_isIn 7 111 1 6 [.ref b, .int p0] A n (xQ (exA eIO) a n K)) (hX : xx_w b (layX b) A) (hO : xx_w ho [(0, .inl (3, 1, .inr (.inl f0)))] A) (hk : ∀ A1, K A1 → xx_w ho [(0, .inl (3, 1, .inr (.inl f0)))] A1) (hex : a.1 = 0 ∨ a.1 = 1) (hbz : a.1 = 0 → a.2 = 0 ∨ a.2 = 1) : xx_C G l yL_isIn mL_isIn 8 132 1 6 [.ref b, .int p0, .ref ho] A n (wQ a n ho K) := by
  refine J_CH hst (by decide +kernel) rfl rfl rfl (Nat.le_of_ble_eq_true rfl) ?_
  show xx_J _ _ _ _ _ _ _ _ 0 [(0, _), (1, _), (2, _)] [] _ _ _ _
  refine J_aload_n dL_isIn_0 rfl rfl ?_
  refine J_iconst (v := 0) dL_isIn_1 (by decide) ?_
  refine J_aload_n dL_isIn_2 rfl rfl ?_
  refine J_iload_n dL_isIn_3 rfl rfl ?_
  refine J_callV (As := [_]) dL_isIn_4 ml_L_53 cal_X6_isIn im_X6_isIn se_X6_isIn (hX.at 0 rfl) rfl rfl rfl (Nat.le_of_ble_eq_true rfl) ⟨by decide, by decide⟩ ⟨by decide, by decide⟩ (hC) (fun E1 A1 n1 _ hQ1 => ?_) (fun v1 A1 n1 _ hQ1 => ?_)
  · obtain ⟨en1, er1, hK1⟩ := hQ1
    have en1 := en1.symm
    subst en1
    obtain ⟨h0, ev1⟩ := ans_x er1
    have hO1 := hk A1 hK1
    rcases hex with z | z
    · exact absurd z h0
    · have eE1 : E1 = eIO := by first | (rw [ev1, z]; done) | (rw [ev1, z]; rfl)
      subst eE1
      refine JX_catch (name := eIO) [] ⟨0, 16, 19, 24⟩ [] rfl (fun z hz => nomatch hz) (by decide) (by decide) cl_L_24 ca_IO ?_
      refine J_astore_n (L' := [(3, _), (0, _), (1, _), (2, _)]) dL_isIn_19 rfl (by decide) rfl ?_
      refine J_iconst (v := 1) dL_isIn_20 (by decide) ?_
      refine J_ireturn dL_isIn_21 rfl rfl (by decide) (by decide) ?_
      exact ⟨by rw [z], by omega, by omega, A1, _, hK1, xx_o1.rf, hO1, fun y => absurd y h0⟩
  · obtain ⟨en1, er1, hK1⟩ := hQ1
    have en1 := en1.symm
    subst en1
    obtain ⟨h0, ev1⟩ := ans_v er1
    subst ev1
    have hO1 := hk A1 hK1
    refine J_if_eq (tgt := 14) dL_isIn_7 rfl (fun h7 => ?_) (fun h7 => ?_)
    · have hb1 : a.2 = 0 := by
        rcases hbz h0 with y | y
        · exact y
        · exact absurd (y.symm.trans h7) (by decide)
      refine J_lconst (v := 0) dL_isIn_14 (by decide) ?_
      refine J_lastN 0 dL_isIn_15 (hO1.at 0 rfl) rfl (by omega) (by decide) ?_
      refine J_genA (wO_a0 hO1 _) ((xx_o1.rf (ho := ho)).put (by omega) (by omega) _) (fun A2 w2 s2 o2 => ?_)
      refine J_goto (tgt := 22) dL_isIn_16 rfl ?_
      refine J_iconst (v := 0) dL_isIn_22 (by decide) ?_
      refine J_ireturn dL_isIn_23 rfl rfl (by decide) (by decide) ?_
      exact ⟨by rw [h0], by omega, by omega, A1, _, hK1, s2, w2, fun _ => by show (0 : Int64) = a.2.toInt64; rw [hb1]; rfl⟩
    · have hb1 : a.2 = 1 := by
        rcases hbz h0 with y | y
        · exact absurd y h7
        · exact y
      refine J_lconst (v := 1) dL_isIn_10 (by decide) ?_
      refine J_goto (tgt := 15) dL_isIn_11 rfl ?_
      refine J_lastN 0 dL_isIn_15 (hO1.at 0 rfl) rfl (by omega) (by decide) ?_
      refine J_genA (wO_a0 hO1 _) ((xx_o1.rf (ho := ho)).put (by omega) (by omega) _) (fun A3 w3 s3 o3 => ?_)
      refine J_goto (tgt := 22) dL_isIn_16 rfl ?_
      refine J_iconst (v := 0) dL_isIn_22 (by decide) ?_
      refine J_ireturn dL_isIn_23 rfl rfl (by decide) (by decide) ?_
      exact ⟨by rw [h0], by omega, by omega, A1, _, hK1, s3, w3, fun _ => by show (1 : Int64) = a.2.toInt64; rw [hb1]; rfl⟩
theorem c_L_leaderAfter (hst : l.stackTraces = false) {p0 : Int32} (hC : xx_C G l yX6_leaderAfter mX6_leaderAfter 32 748 2 12 [.ref b, .int p0] A n (xQ (exB eIA eIS) a n K)) (hX : xx_w b (layX b) A) (hO : xx_w ho [(0, .inl (3, 1, .inr (.inl f0)))] A) (hk : ∀ A1, K A1 → xx_w ho [(0, .inl (3, 1, .inr (.inl f0)))] A1) (hex : a.1 = 0 ∨ a.1 = 1 ∨ a.1 = 2) : xx_C G l yL_leaderAfter mL_leaderAfter 33 769 2 12 [.ref b, .int p0, .ref ho] A n (wQ a n ho K) := by
  refine J_CH hst (by decide +kernel) rfl rfl rfl (Nat.le_of_ble_eq_true rfl) ?_
  show xx_J _ _ _ _ _ _ _ _ 0 [(0, _), (1, _), (2, _)] [] _ _ _ _
  refine J_aload_n dL_leaderAfter_0 rfl rfl ?_
  refine J_iconst (v := 0) dL_leaderAfter_1 (by decide) ?_
  refine J_aload_n dL_leaderAfter_2 rfl rfl ?_
  refine J_iload_n dL_leaderAfter_3 rfl rfl ?_
  refine J_callV (As := [_]) dL_leaderAfter_4 ml_L_101 cal_X6_leaderAfter im_X6_leaderAfter se_X6_leaderAfter (hX.at 0 rfl) rfl rfl rfl (Nat.le_of_ble_eq_true rfl) ⟨by decide, by decide⟩ ⟨by decide, by decide⟩ (hC) (fun E1 A1 n1 _ hQ1 => ?_) (fun v1 A1 n1 _ hQ1 => ?_)
  · obtain ⟨en1, er1, hK1⟩ := hQ1
    have en1 := en1.symm
    subst en1
    obtain ⟨h0, ev1⟩ := ans_x er1
    have hO1 := hk A1 hK1
    rcases hex with z | z | z
    · exact absurd z h0
    · have eE1 : E1 = eIA := by first | (rw [ev1, z]; done) | (rw [ev1, z]; rfl)
      subst eE1
      refine JX_catch (name := eIA) [] ⟨0, 9, 12, 19⟩ [⟨0, 9, 15, 13⟩] rfl (fun z hz => nomatch hz) (by decide) (by decide) cl_L_19 ca_IA ?_
      refine J_astore_n (L' := [(3, _), (0, _), (1, _), (2, _)]) dL_leaderAfter_12 rfl (by decide) rfl ?_
      refine J_iconst (v := 1) dL_leaderAfter_13 (by decide) ?_
      refine J_ireturn dL_leaderAfter_14 rfl rfl (by decide) (by decide) ?_
      exact ⟨by rw [z], by omega, by omega, A1, _, hK1, xx_o1.rf, hO1, fun y => absurd y h0⟩
    · have eE1 : E1 = eIS := by first | (rw [ev1, z]; done) | (rw [ev1, z]; rfl)
      subst eE1
      refine JX_catch (name := eIS) [⟨0, 9, 12, 19⟩] ⟨0, 9, 15, 13⟩ [] rfl (fun z hz => by
        simp only [List.mem_cons, List.not_mem_nil, or_false] at hz
        subst hz
        exact ⟨by decide, _, cl_L_19, by decide⟩) (by decide) (by decide) cl_L_13 ca_IS ?_
      refine J_astore_n (L' := [(3, _), (0, _), (1, _), (2, _)]) dL_leaderAfter_15 rfl (by decide) rfl ?_
      refine J_iconst (v := 2) dL_leaderAfter_16 (by decide) ?_
      refine J_ireturn dL_leaderAfter_17 rfl rfl (by decide) (by decide) ?_
      exact ⟨by rw [z], by omega, by omega, A1, _, hK1, xx_o1.rf, hO1, fun y => absurd y h0⟩
  · obtain ⟨en1, er1, hK1⟩ := hQ1
    have en1 := en1.symm
    subst en1
    obtain ⟨h0, ev1⟩ := ans_v er1
    subst ev1
    have hO1 := hk A1 hK1
    refine J_i2l dL_leaderAfter_7 rfl ?_
    refine J_lastN 0 dL_leaderAfter_8 (hO1.at 0 rfl) rfl (by omega) (by decide) ?_
    refine J_genA (wO_a0 hO1 _) ((xx_o1.rf (ho := ho)).put (by omega) (by omega) _) (fun A2 w2 s2 o2 => ?_)
    refine J_goto (tgt := 18) dL_leaderAfter_9 rfl ?_
    refine J_iconst (v := 0) dL_leaderAfter_18 (by decide) ?_
    refine J_ireturn dL_leaderAfter_19 rfl rfl (by decide) (by decide) ?_
    exact ⟨by rw [h0], by omega, by omega, A1, _, hK1, s2, w2, fun _ => rfl⟩
theorem c_L_lossesOf (hst : l.stackTraces = false) {p0 : Int32} (hC : xx_C G l yX6_lossesOf mX6_lossesOf 7 111 1 6 [.ref b, .int p0] A n (xQ (exA eIO) a n K)) (hX : xx_w b (layX b) A) (hO : xx_w ho [(0, .inl (3, 1, .inr (.inl f0)))] A) (hk : ∀ A1, K A1 → xx_w ho [(0, .inl (3, 1, .inr (.inl f0)))] A1) (hex : a.1 = 0 ∨ a.1 = 1) : xx_C G l yL_lossesOf mL_lossesOf 8 132 1 6 [.ref b, .int p0, .ref ho] A n (wQ a n ho K) := by
  refine J_CH hst (by decide +kernel) rfl rfl rfl (Nat.le_of_ble_eq_true rfl) ?_
  show xx_J _ _ _ _ _ _ _ _ 0 [(0, _), (1, _), (2, _)] [] _ _ _ _
  refine J_aload_n dL_lossesOf_0 rfl rfl ?_
  refine J_iconst (v := 0) dL_lossesOf_1 (by decide) ?_
  refine J_aload_n dL_lossesOf_2 rfl rfl ?_
  refine J_iload_n dL_lossesOf_3 rfl rfl ?_
  refine J_callV (As := [_]) dL_lossesOf_4 ml_L_35 cal_X6_lossesOf im_X6_lossesOf se_X6_lossesOf (hX.at 0 rfl) rfl rfl rfl (Nat.le_of_ble_eq_true rfl) ⟨by decide, by decide⟩ ⟨by decide, by decide⟩ (hC) (fun E1 A1 n1 _ hQ1 => ?_) (fun v1 A1 n1 _ hQ1 => ?_)
  · obtain ⟨en1, er1, hK1⟩ := hQ1
    have en1 := en1.symm
    subst en1
    obtain ⟨h0, ev1⟩ := ans_x er1
    have hO1 := hk A1 hK1
    rcases hex with z | z
    · exact absurd z h0
    · have eE1 : E1 = eIO := by first | (rw [ev1, z]; done) | (rw [ev1, z]; rfl)
      subst eE1
      refine JX_catch (name := eIO) [] ⟨0, 9, 12, 24⟩ [] rfl (fun z hz => nomatch hz) (by decide) (by decide) cl_L_24 ca_IO ?_
      refine J_astore_n (L' := [(3, _), (0, _), (1, _), (2, _)]) dL_lossesOf_12 rfl (by decide) rfl ?_
      refine J_iconst (v := 1) dL_lossesOf_13 (by decide) ?_
      refine J_ireturn dL_lossesOf_14 rfl rfl (by decide) (by decide) ?_
      exact ⟨by rw [z], by omega, by omega, A1, _, hK1, xx_o1.rf, hO1, fun y => absurd y h0⟩
  · obtain ⟨en1, er1, hK1⟩ := hQ1
    have en1 := en1.symm
    subst en1
    obtain ⟨h0, ev1⟩ := ans_v er1
    subst ev1
    have hO1 := hk A1 hK1
    refine J_i2l dL_lossesOf_7 rfl ?_
    refine J_lastN 0 dL_lossesOf_8 (hO1.at 0 rfl) rfl (by omega) (by decide) ?_
    refine J_genA (wO_a0 hO1 _) ((xx_o1.rf (ho := ho)).put (by omega) (by omega) _) (fun A2 w2 s2 o2 => ?_)
    refine J_goto (tgt := 15) dL_lossesOf_9 rfl ?_
    refine J_iconst (v := 0) dL_lossesOf_15 (by decide) ?_
    refine J_ireturn dL_lossesOf_16 rfl rfl (by decide) (by decide) ?_
    exact ⟨by rw [h0], by omega, by omega, A1, _, hK1, s2, w2, fun _ => rfl⟩
theorem c_L_nextOpponentOf (hst : l.stackTraces = false) {p0 : Int32} (hC : xx_C G l yX6_nextOpponentOf mX6_nextOpponentOf 31 726 3 18 [.ref b, .int p0] A n (xQ (exB eIO eIS) a n K)) (hX : xx_w b (layX b) A) (hO : xx_w ho [(0, .inl (3, 1, .inr (.inl f0)))] A) (hk : ∀ A1, K A1 → xx_w ho [(0, .inl (3, 1, .inr (.inl f0)))] A1) (hex : a.1 = 0 ∨ a.1 = 1 ∨ a.1 = 2) : xx_C G l yL_nextOpponentOf mL_nextOpponentOf 32 748 3 18 [.ref b, .int p0, .ref ho] A n (wQ a n ho K) := by
  refine J_CH hst (by decide +kernel) rfl rfl rfl (Nat.le_of_ble_eq_true rfl) ?_
  show xx_J _ _ _ _ _ _ _ _ 0 [(0, _), (1, _), (2, _)] [] _ _ _ _
  refine J_aload_n dL_nextOpponentOf_0 rfl rfl ?_
  refine J_iconst (v := 0) dL_nextOpponentOf_1 (by decide) ?_
  refine J_aload_n dL_nextOpponentOf_2 rfl rfl ?_
  refine J_iload_n dL_nextOpponentOf_3 rfl rfl ?_
  refine J_callV (As := [_]) dL_nextOpponentOf_4 ml_L_95 cal_X6_nextOpponentOf im_X6_nextOpponentOf se_X6_nextOpponentOf (hX.at 0 rfl) rfl rfl rfl (Nat.le_of_ble_eq_true rfl) ⟨by decide, by decide⟩ ⟨by decide, by decide⟩ (hC) (fun E1 A1 n1 _ hQ1 => ?_) (fun v1 A1 n1 _ hQ1 => ?_)
  · obtain ⟨en1, er1, hK1⟩ := hQ1
    have en1 := en1.symm
    subst en1
    obtain ⟨h0, ev1⟩ := ans_x er1
    have hO1 := hk A1 hK1
    rcases hex with z | z | z
    · exact absurd z h0
    · have eE1 : E1 = eIO := by first | (rw [ev1, z]; done) | (rw [ev1, z]; rfl)
      subst eE1
      refine JX_catch (name := eIO) [] ⟨0, 9, 12, 24⟩ [⟨0, 9, 15, 13⟩] rfl (fun z hz => nomatch hz) (by decide) (by decide) cl_L_24 ca_IO ?_
      refine J_astore_n (L' := [(3, _), (0, _), (1, _), (2, _)]) dL_nextOpponentOf_12 rfl (by decide) rfl ?_
      refine J_iconst (v := 1) dL_nextOpponentOf_13 (by decide) ?_
      refine J_ireturn dL_nextOpponentOf_14 rfl rfl (by decide) (by decide) ?_
      exact ⟨by rw [z], by omega, by omega, A1, _, hK1, xx_o1.rf, hO1, fun y => absurd y h0⟩
    · have eE1 : E1 = eIS := by first | (rw [ev1, z]; done) | (rw [ev1, z]; rfl)
      subst eE1
      refine JX_catch (name := eIS) [⟨0, 9, 12, 24⟩] ⟨0, 9, 15, 13⟩ [] rfl (fun z hz => by
        simp only [List.mem_cons, List.not_mem_nil, or_false] at hz
        subst hz
        exact ⟨by decide, _, cl_L_24, by decide⟩) (by decide) (by decide) cl_L_13 ca_IS ?_
      refine J_astore_n (L' := [(3, _), (0, _), (1, _), (2, _)]) dL_nextOpponentOf_15 rfl (by decide) rfl ?_
      refine J_iconst (v := 2) dL_nextOpponentOf_16 (by decide) ?_
      refine J_ireturn dL_nextOpponentOf_17 rfl rfl (by decide) (by decide) ?_
      exact ⟨by rw [z], by omega, by omega, A1, _, hK1, xx_o1.rf, hO1, fun y => absurd y h0⟩
  · obtain ⟨en1, er1, hK1⟩ := hQ1
    have en1 := en1.symm
    subst en1
    obtain ⟨h0, ev1⟩ := ans_v er1
    subst ev1
    have hO1 := hk A1 hK1
    refine J_i2l dL_nextOpponentOf_7 rfl ?_
    refine J_lastN 0 dL_nextOpponentOf_8 (hO1.at 0 rfl) rfl (by omega) (by decide) ?_
    refine J_genA (wO_a0 hO1 _) ((xx_o1.rf (ho := ho)).put (by omega) (by omega) _) (fun A2 w2 s2 o2 => ?_)
    refine J_goto (tgt := 18) dL_nextOpponentOf_9 rfl ?_
    refine J_iconst (v := 0) dL_nextOpponentOf_18 (by decide) ?_
    refine J_ireturn dL_nextOpponentOf_19 rfl rfl (by decide) (by decide) ?_
    exact ⟨by rw [h0], by omega, by omega, A1, _, hK1, s2, w2, fun _ => rfl⟩
theorem c_L_nextRematches (hst : l.stackTraces = false)  (hC : xx_C G l yX6_nextRematches mX6_nextRematches 31 726 1 6 [.ref b] A n (xQ (exA eIS) a n K)) (hX : xx_w b (layX b) A) (hO : xx_w ho [(0, .inl (3, 1, .inr (.inl f0)))] A) (hk : ∀ A1, K A1 → xx_w ho [(0, .inl (3, 1, .inr (.inl f0)))] A1) (hex : a.1 = 0 ∨ a.1 = 1) : xx_C G l yL_nextRematches mL_nextRematches 32 746 1 6 [.ref b, .ref ho] A n (wQ a n ho K) := by
  refine J_CH hst (by decide +kernel) rfl rfl rfl (Nat.le_of_ble_eq_true rfl) ?_
  show xx_J _ _ _ _ _ _ _ _ 0 [(0, _), (1, _)] [] _ _ _ _
  refine J_aload_n dL_nextRematches_0 rfl rfl ?_
  refine J_iconst (v := 0) dL_nextRematches_1 (by decide) ?_
  refine J_aload_n dL_nextRematches_2 rfl rfl ?_
  refine J_callV (As := []) dL_nextRematches_3 ml_L_98 cal_X6_nextRematches im_X6_nextRematches se_X6_nextRematches (hX.at 0 rfl) rfl rfl rfl (Nat.le_of_ble_eq_true rfl) ⟨by decide, by decide⟩ ⟨by decide, by decide⟩ (hC) (fun E1 A1 n1 _ hQ1 => ?_) (fun v1 A1 n1 _ hQ1 => ?_)
  · obtain ⟨en1, er1, hK1⟩ := hQ1
    have en1 := en1.symm
    subst en1
    obtain ⟨h0, ev1⟩ := ans_x er1
    have hO1 := hk A1 hK1
    rcases hex with z | z
    · exact absurd z h0
    · have eE1 : E1 = eIS := by first | (rw [ev1, z]; done) | (rw [ev1, z]; rfl)
      subst eE1
      refine JX_catch (name := eIS) [] ⟨0, 8, 11, 13⟩ [] rfl (fun z hz => nomatch hz) (by decide) (by decide) cl_L_13 ca_IS ?_
      refine J_astore_n (L' := [(2, _), (0, _), (1, _)]) dL_nextRematches_11 rfl (by decide) rfl ?_
      refine J_iconst (v := 1) dL_nextRematches_12 (by decide) ?_
      refine J_ireturn dL_nextRematches_13 rfl rfl (by decide) (by decide) ?_
      exact ⟨by rw [z], by omega, by omega, A1, _, hK1, xx_o1.rf, hO1, fun y => absurd y h0⟩
  · obtain ⟨en1, er1, hK1⟩ := hQ1
    have en1 := en1.symm
    subst en1
    obtain ⟨h0, ev1⟩ := ans_v er1
    subst ev1
    have hO1 := hk A1 hK1
    refine J_i2l dL_nextRematches_6 rfl ?_
    refine J_lastN 0 dL_nextRematches_7 (hO1.at 0 rfl) rfl (by omega) (by decide) ?_
    refine J_genA (wO_a0 hO1 _) ((xx_o1.rf (ho := ho)).put (by omega) (by omega) _) (fun A2 w2 s2 o2 => ?_)
    refine J_goto (tgt := 14) dL_nextRematches_8 rfl ?_
    refine J_iconst (v := 0) dL_nextRematches_14 (by decide) ?_
    refine J_ireturn dL_nextRematches_15 rfl rfl (by decide) (by decide) ?_
    exact ⟨by rw [h0], by omega, by omega, A1, _, hK1, s2, w2, fun _ => rfl⟩
theorem c_L_opponentOf (hst : l.stackTraces = false) {p0 : Int32} (hC : xx_C G l yX6_opponentOf mX6_opponentOf 7 111 2 12 [.ref b, .int p0] A n (xQ (exB eIO eIS) a n K)) (hX : xx_w b (layX b) A) (hO : xx_w ho [(0, .inl (3, 1, .inr (.inl f0)))] A) (hk : ∀ A1, K A1 → xx_w ho [(0, .inl (3, 1, .inr (.inl f0)))] A1) (hex : a.1 = 0 ∨ a.1 = 1 ∨ a.1 = 2) : xx_C G l yL_opponentOf mL_opponentOf 8 133 2 12 [.ref b, .int p0, .ref ho] A n (wQ a n ho K) := by
  refine J_CH hst (by decide +kernel) rfl rfl rfl (Nat.le_of_ble_eq_true rfl) ?_
  show xx_J _ _ _ _ _ _ _ _ 0 [(0, _), (1, _), (2, _)] [] _ _ _ _
  refine J_aload_n dL_opponentOf_0 rfl rfl ?_
  refine J_iconst (v := 0) dL_opponentOf_1 (by decide) ?_
  refine J_aload_n dL_opponentOf_2 rfl rfl ?_
  refine J_iload_n dL_opponentOf_3 rfl rfl ?_
  refine J_callV (As := [_]) dL_opponentOf_4 ml_L_76 cal_X6_opponentOf im_X6_opponentOf se_X6_opponentOf (hX.at 0 rfl) rfl rfl rfl (Nat.le_of_ble_eq_true rfl) ⟨by decide, by decide⟩ ⟨by decide, by decide⟩ (hC) (fun E1 A1 n1 _ hQ1 => ?_) (fun v1 A1 n1 _ hQ1 => ?_)
  · obtain ⟨en1, er1, hK1⟩ := hQ1
    have en1 := en1.symm
    subst en1
    obtain ⟨h0, ev1⟩ := ans_x er1
    have hO1 := hk A1 hK1
    rcases hex with z | z | z
    · exact absurd z h0
    · have eE1 : E1 = eIO := by first | (rw [ev1, z]; done) | (rw [ev1, z]; rfl)
      subst eE1
      refine JX_catch (name := eIO) [] ⟨0, 9, 12, 24⟩ [⟨0, 9, 15, 13⟩] rfl (fun z hz => nomatch hz) (by decide) (by decide) cl_L_24 ca_IO ?_
      refine J_astore_n (L' := [(3, _), (0, _), (1, _), (2, _)]) dL_opponentOf_12 rfl (by decide) rfl ?_
      refine J_iconst (v := 1) dL_opponentOf_13 (by decide) ?_
      refine J_ireturn dL_opponentOf_14 rfl rfl (by decide) (by decide) ?_
      exact ⟨by rw [z], by omega, by omega, A1, _, hK1, xx_o1.rf, hO1, fun y => absurd y h0⟩
    · have eE1 : E1 = eIS := by first | (rw [ev1, z]; done) | (rw [ev1, z]; rfl)
      subst eE1
      refine JX_catch (name := eIS) [⟨0, 9, 12, 24⟩] ⟨0, 9, 15, 13⟩ [] rfl (fun z hz => by
        simp only [List.mem_cons, List.not_mem_nil, or_false] at hz
        subst hz
        exact ⟨by decide, _, cl_L_24, by decide⟩) (by decide) (by decide) cl_L_13 ca_IS ?_
      refine J_astore_n (L' := [(3, _), (0, _), (1, _), (2, _)]) dL_opponentOf_15 rfl (by decide) rfl ?_
      refine J_iconst (v := 2) dL_opponentOf_16 (by decide) ?_
      refine J_ireturn dL_opponentOf_17 rfl rfl (by decide) (by decide) ?_
      exact ⟨by rw [z], by omega, by omega, A1, _, hK1, xx_o1.rf, hO1, fun y => absurd y h0⟩
  · obtain ⟨en1, er1, hK1⟩ := hQ1
    have en1 := en1.symm
    subst en1
    obtain ⟨h0, ev1⟩ := ans_v er1
    subst ev1
    have hO1 := hk A1 hK1
    refine J_i2l dL_opponentOf_7 rfl ?_
    refine J_lastN 0 dL_opponentOf_8 (hO1.at 0 rfl) rfl (by omega) (by decide) ?_
    refine J_genA (wO_a0 hO1 _) ((xx_o1.rf (ho := ho)).put (by omega) (by omega) _) (fun A2 w2 s2 o2 => ?_)
    refine J_goto (tgt := 18) dL_opponentOf_9 rfl ?_
    refine J_iconst (v := 0) dL_opponentOf_18 (by decide) ?_
    refine J_ireturn dL_opponentOf_19 rfl rfl (by decide) (by decide) ?_
    exact ⟨by rw [h0], by omega, by omega, A1, _, hK1, s2, w2, fun _ => rfl⟩
theorem c_L_outcomeOf (hst : l.stackTraces = false) {p0 : Int32} (hC : xx_C G l yX6_outcomeOf mX6_outcomeOf 7 111 2 12 [.ref b, .int p0] A n (xQ (exB eIO eIS) a n K)) (hX : xx_w b (layX b) A) (hO : xx_w ho [(0, .inl (3, 1, .inr (.inl f0)))] A) (hk : ∀ A1, K A1 → xx_w ho [(0, .inl (3, 1, .inr (.inl f0)))] A1) (hex : a.1 = 0 ∨ a.1 = 1 ∨ a.1 = 2) : xx_C G l yL_outcomeOf mL_outcomeOf 8 133 2 12 [.ref b, .int p0, .ref ho] A n (wQ a n ho K) := by
  refine J_CH hst (by decide +kernel) rfl rfl rfl (Nat.le_of_ble_eq_true rfl) ?_
  show xx_J _ _ _ _ _ _ _ _ 0 [(0, _), (1, _), (2, _)] [] _ _ _ _
  refine J_aload_n dL_outcomeOf_0 rfl rfl ?_
  refine J_iconst (v := 0) dL_outcomeOf_1 (by decide) ?_
  refine J_aload_n dL_outcomeOf_2 rfl rfl ?_
  refine J_iload_n dL_outcomeOf_3 rfl rfl ?_
  refine J_callV (As := [_]) dL_outcomeOf_4 ml_L_70 cal_X6_outcomeOf im_X6_outcomeOf se_X6_outcomeOf (hX.at 0 rfl) rfl rfl rfl (Nat.le_of_ble_eq_true rfl) ⟨by decide, by decide⟩ ⟨by decide, by decide⟩ (hC) (fun E1 A1 n1 _ hQ1 => ?_) (fun v1 A1 n1 _ hQ1 => ?_)
  · obtain ⟨en1, er1, hK1⟩ := hQ1
    have en1 := en1.symm
    subst en1
    obtain ⟨h0, ev1⟩ := ans_x er1
    have hO1 := hk A1 hK1
    rcases hex with z | z | z
    · exact absurd z h0
    · have eE1 : E1 = eIO := by first | (rw [ev1, z]; done) | (rw [ev1, z]; rfl)
      subst eE1
      refine JX_catch (name := eIO) [] ⟨0, 9, 12, 24⟩ [⟨0, 9, 15, 13⟩] rfl (fun z hz => nomatch hz) (by decide) (by decide) cl_L_24 ca_IO ?_
      refine J_astore_n (L' := [(3, _), (0, _), (1, _), (2, _)]) dL_outcomeOf_12 rfl (by decide) rfl ?_
      refine J_iconst (v := 1) dL_outcomeOf_13 (by decide) ?_
      refine J_ireturn dL_outcomeOf_14 rfl rfl (by decide) (by decide) ?_
      exact ⟨by rw [z], by omega, by omega, A1, _, hK1, xx_o1.rf, hO1, fun y => absurd y h0⟩
    · have eE1 : E1 = eIS := by first | (rw [ev1, z]; done) | (rw [ev1, z]; rfl)
      subst eE1
      refine JX_catch (name := eIS) [⟨0, 9, 12, 24⟩] ⟨0, 9, 15, 13⟩ [] rfl (fun z hz => by
        simp only [List.mem_cons, List.not_mem_nil, or_false] at hz
        subst hz
        exact ⟨by decide, _, cl_L_24, by decide⟩) (by decide) (by decide) cl_L_13 ca_IS ?_
      refine J_astore_n (L' := [(3, _), (0, _), (1, _), (2, _)]) dL_outcomeOf_15 rfl (by decide) rfl ?_
      refine J_iconst (v := 2) dL_outcomeOf_16 (by decide) ?_
      refine J_ireturn dL_outcomeOf_17 rfl rfl (by decide) (by decide) ?_
      exact ⟨by rw [z], by omega, by omega, A1, _, hK1, xx_o1.rf, hO1, fun y => absurd y h0⟩
  · obtain ⟨en1, er1, hK1⟩ := hQ1
    have en1 := en1.symm
    subst en1
    obtain ⟨h0, ev1⟩ := ans_v er1
    subst ev1
    have hO1 := hk A1 hK1
    refine J_i2l dL_outcomeOf_7 rfl ?_
    refine J_lastN 0 dL_outcomeOf_8 (hO1.at 0 rfl) rfl (by omega) (by decide) ?_
    refine J_genA (wO_a0 hO1 _) ((xx_o1.rf (ho := ho)).put (by omega) (by omega) _) (fun A2 w2 s2 o2 => ?_)
    refine J_goto (tgt := 18) dL_outcomeOf_9 rfl ?_
    refine J_iconst (v := 0) dL_outcomeOf_18 (by decide) ?_
    refine J_ireturn dL_outcomeOf_19 rfl rfl (by decide) (by decide) ?_
    exact ⟨by rw [h0], by omega, by omega, A1, _, hK1, s2, w2, fun _ => rfl⟩
theorem c_L_pairRound (hst : l.stackTraces = false)  (hC : xx_C G l yX6_pairRound mX6_pairRound 31 726 1 6 [.ref b] A n (xQ (exA eIS) a n K)) (hX : xx_w b (layX b) A) (hO : xx_w ho [(0, .inl (3, 1, .inr (.inl f0)))] A) (hk : ∀ A1, K A1 → xx_w ho [(0, .inl (3, 1, .inr (.inl f0)))] A1) (hex : a.1 = 0 ∨ a.1 = 1) : xx_C G l yL_pairRound mL_pairRound 32 746 1 6 [.ref b, .ref ho] A n (wQ a n ho K) := by
  refine J_CH hst (by decide +kernel) rfl rfl rfl (Nat.le_of_ble_eq_true rfl) ?_
  show xx_J _ _ _ _ _ _ _ _ 0 [(0, _), (1, _)] [] _ _ _ _
  refine J_aload_n dL_pairRound_0 rfl rfl ?_
  refine J_iconst (v := 0) dL_pairRound_1 (by decide) ?_
  refine J_aload_n dL_pairRound_2 rfl rfl ?_
  refine J_callV (As := []) dL_pairRound_3 ml_L_83 cal_X6_pairRound im_X6_pairRound se_X6_pairRound (hX.at 0 rfl) rfl rfl rfl (Nat.le_of_ble_eq_true rfl) ⟨by decide, by decide⟩ ⟨by decide, by decide⟩ (hC) (fun E1 A1 n1 _ hQ1 => ?_) (fun v1 A1 n1 _ hQ1 => ?_)
  · obtain ⟨en1, er1, hK1⟩ := hQ1
    have en1 := en1.symm
    subst en1
    obtain ⟨h0, ev1⟩ := ans_x er1
    have hO1 := hk A1 hK1
    rcases hex with z | z
    · exact absurd z h0
    · have eE1 : E1 = eIS := by first | (rw [ev1, z]; done) | (rw [ev1, z]; rfl)
      subst eE1
      refine JX_catch (name := eIS) [] ⟨0, 8, 11, 13⟩ [] rfl (fun z hz => nomatch hz) (by decide) (by decide) cl_L_13 ca_IS ?_
      refine J_astore_n (L' := [(2, _), (0, _), (1, _)]) dL_pairRound_11 rfl (by decide) rfl ?_
      refine J_iconst (v := 1) dL_pairRound_12 (by decide) ?_
      refine J_ireturn dL_pairRound_13 rfl rfl (by decide) (by decide) ?_
      exact ⟨by rw [z], by omega, by omega, A1, _, hK1, xx_o1.rf, hO1, fun y => absurd y h0⟩
  · obtain ⟨en1, er1, hK1⟩ := hQ1
    have en1 := en1.symm
    subst en1
    obtain ⟨h0, ev1⟩ := ans_v er1
    subst ev1
    have hO1 := hk A1 hK1
    refine J_i2l dL_pairRound_6 rfl ?_
    refine J_lastN 0 dL_pairRound_7 (hO1.at 0 rfl) rfl (by omega) (by decide) ?_
    refine J_genA (wO_a0 hO1 _) ((xx_o1.rf (ho := ho)).put (by omega) (by omega) _) (fun A2 w2 s2 o2 => ?_)
    refine J_goto (tgt := 14) dL_pairRound_8 rfl ?_
    refine J_iconst (v := 0) dL_pairRound_14 (by decide) ?_
    refine J_ireturn dL_pairRound_15 rfl rfl (by decide) (by decide) ?_
    exact ⟨by rw [h0], by omega, by omega, A1, _, hK1, s2, w2, fun _ => rfl⟩
theorem c_L_pointsAfter (hst : l.stackTraces = false) {p0 : Int32} {p1 : Int32} (hC : xx_C G l yX6_pointsAfter mX6_pointsAfter 32 748 2 12 [.ref b, .int p0, .int p1] A n (xQ (exB eIO eIA) a n K)) (hX : xx_w b (layX b) A) (hO : xx_w ho [(0, .inl (3, 1, .inr (.inl f0)))] A) (hk : ∀ A1, K A1 → xx_w ho [(0, .inl (3, 1, .inr (.inl f0)))] A1) (hex : a.1 = 0 ∨ a.1 = 1 ∨ a.1 = 2) : xx_C G l yL_pointsAfter mL_pointsAfter 33 770 2 12 [.ref b, .int p0, .int p1, .ref ho] A n (wQ a n ho K) := by
  refine J_CH hst (by decide +kernel) rfl rfl rfl (Nat.le_of_ble_eq_true rfl) ?_
  show xx_J _ _ _ _ _ _ _ _ 0 [(0, _), (1, _), (2, _), (3, _)] [] _ _ _ _
  refine J_aload_n dL_pointsAfter_0 rfl rfl ?_
  refine J_iconst (v := 0) dL_pointsAfter_1 (by decide) ?_
  refine J_aload_n dL_pointsAfter_2 rfl rfl ?_
  refine J_iload_n dL_pointsAfter_3 rfl rfl ?_
  refine J_iload_n dL_pointsAfter_4 rfl rfl ?_
  refine J_callV (As := [_, _]) dL_pointsAfter_5 ml_L_104 cal_X6_pointsAfter im_X6_pointsAfter se_X6_pointsAfter (hX.at 0 rfl) rfl rfl rfl (Nat.le_of_ble_eq_true rfl) ⟨by decide, by decide⟩ ⟨by decide, by decide⟩ (hC) (fun E1 A1 n1 _ hQ1 => ?_) (fun v1 A1 n1 _ hQ1 => ?_)
  · obtain ⟨en1, er1, hK1⟩ := hQ1
    have en1 := en1.symm
    subst en1
    obtain ⟨h0, ev1⟩ := ans_x er1
    have hO1 := hk A1 hK1
    rcases hex with z | z | z
    · exact absurd z h0
    · have eE1 : E1 = eIO := by first | (rw [ev1, z]; done) | (rw [ev1, z]; rfl)
      subst eE1
      refine JX_catch (name := eIO) [] ⟨0, 10, 13, 24⟩ [⟨0, 10, 17, 19⟩] rfl (fun z hz => nomatch hz) (by decide) (by decide) cl_L_24 ca_IO ?_
      refine J_astore (L' := [(4, _), (0, _), (1, _), (2, _), (3, _)]) dL_pointsAfter_13 (by decide) rfl ?_
      refine J_iconst (v := 1) dL_pointsAfter_15 (by decide) ?_
      refine J_ireturn dL_pointsAfter_16 rfl rfl (by decide) (by decide) ?_
      exact ⟨by rw [z], by omega, by omega, A1, _, hK1, xx_o1.rf, hO1, fun y => absurd y h0⟩
    · have eE1 : E1 = eIA := by first | (rw [ev1, z]; done) | (rw [ev1, z]; rfl)
      subst eE1
      refine JX_catch (name := eIA) [⟨0, 10, 13, 24⟩] ⟨0, 10, 17, 19⟩ [] rfl (fun z hz => by
        simp only [List.mem_cons, List.not_mem_nil, or_false] at hz
        subst hz
        exact ⟨by decide, _, cl_L_24, by decide⟩) (by decide) (by decide) cl_L_19 ca_IA ?_
      refine J_astore (L' := [(4, _), (0, _), (1, _), (2, _), (3, _)]) dL_pointsAfter_17 (by decide) rfl ?_
      refine J_iconst (v := 2) dL_pointsAfter_19 (by decide) ?_
      refine J_ireturn dL_pointsAfter_20 rfl rfl (by decide) (by decide) ?_
      exact ⟨by rw [z], by omega, by omega, A1, _, hK1, xx_o1.rf, hO1, fun y => absurd y h0⟩
  · obtain ⟨en1, er1, hK1⟩ := hQ1
    have en1 := en1.symm
    subst en1
    obtain ⟨h0, ev1⟩ := ans_v er1
    subst ev1
    have hO1 := hk A1 hK1
    refine J_i2l dL_pointsAfter_8 rfl ?_
    refine J_lastN 0 dL_pointsAfter_9 (hO1.at 0 rfl) rfl (by omega) (by decide) ?_
    refine J_genA (wO_a0 hO1 _) ((xx_o1.rf (ho := ho)).put (by omega) (by omega) _) (fun A2 w2 s2 o2 => ?_)
    refine J_goto (tgt := 21) dL_pointsAfter_10 rfl ?_
    refine J_iconst (v := 0) dL_pointsAfter_21 (by decide) ?_
    refine J_ireturn dL_pointsAfter_22 rfl rfl (by decide) (by decide) ?_
    exact ⟨by rw [h0], by omega, by omega, A1, _, hK1, s2, w2, fun _ => rfl⟩
theorem c_L_pointsOf (hst : l.stackTraces = false) {p0 : Int32} (hC : xx_C G l yX6_pointsOf mX6_pointsOf 7 111 1 6 [.ref b, .int p0] A n (xQ (exA eIO) a n K)) (hX : xx_w b (layX b) A) (hO : xx_w ho [(0, .inl (3, 1, .inr (.inl f0)))] A) (hk : ∀ A1, K A1 → xx_w ho [(0, .inl (3, 1, .inr (.inl f0)))] A1) (hex : a.1 = 0 ∨ a.1 = 1) : xx_C G l yL_pointsOf mL_pointsOf 8 132 1 6 [.ref b, .int p0, .ref ho] A n (wQ a n ho K) := by
  refine J_CH hst (by decide +kernel) rfl rfl rfl (Nat.le_of_ble_eq_true rfl) ?_
  show xx_J _ _ _ _ _ _ _ _ 0 [(0, _), (1, _), (2, _)] [] _ _ _ _
  refine J_aload_n dL_pointsOf_0 rfl rfl ?_
  refine J_iconst (v := 0) dL_pointsOf_1 (by decide) ?_
  refine J_aload_n dL_pointsOf_2 rfl rfl ?_
  refine J_iload_n dL_pointsOf_3 rfl rfl ?_
  refine J_callV (As := [_]) dL_pointsOf_4 ml_L_26 cal_X6_pointsOf im_X6_pointsOf se_X6_pointsOf (hX.at 0 rfl) rfl rfl rfl (Nat.le_of_ble_eq_true rfl) ⟨by decide, by decide⟩ ⟨by decide, by decide⟩ (hC) (fun E1 A1 n1 _ hQ1 => ?_) (fun v1 A1 n1 _ hQ1 => ?_)
  · obtain ⟨en1, er1, hK1⟩ := hQ1
    have en1 := en1.symm
    subst en1
    obtain ⟨h0, ev1⟩ := ans_x er1
    have hO1 := hk A1 hK1
    rcases hex with z | z
    · exact absurd z h0
    · have eE1 : E1 = eIO := by first | (rw [ev1, z]; done) | (rw [ev1, z]; rfl)
      subst eE1
      refine JX_catch (name := eIO) [] ⟨0, 9, 12, 24⟩ [] rfl (fun z hz => nomatch hz) (by decide) (by decide) cl_L_24 ca_IO ?_
      refine J_astore_n (L' := [(3, _), (0, _), (1, _), (2, _)]) dL_pointsOf_12 rfl (by decide) rfl ?_
      refine J_iconst (v := 1) dL_pointsOf_13 (by decide) ?_
      refine J_ireturn dL_pointsOf_14 rfl rfl (by decide) (by decide) ?_
      exact ⟨by rw [z], by omega, by omega, A1, _, hK1, xx_o1.rf, hO1, fun y => absurd y h0⟩
  · obtain ⟨en1, er1, hK1⟩ := hQ1
    have en1 := en1.symm
    subst en1
    obtain ⟨h0, ev1⟩ := ans_v er1
    subst ev1
    have hO1 := hk A1 hK1
    refine J_i2l dL_pointsOf_7 rfl ?_
    refine J_lastN 0 dL_pointsOf_8 (hO1.at 0 rfl) rfl (by omega) (by decide) ?_
    refine J_genA (wO_a0 hO1 _) ((xx_o1.rf (ho := ho)).put (by omega) (by omega) _) (fun A2 w2 s2 o2 => ?_)
    refine J_goto (tgt := 15) dL_pointsOf_9 rfl ?_
    refine J_iconst (v := 0) dL_pointsOf_15 (by decide) ?_
    refine J_ireturn dL_pointsOf_16 rfl rfl (by decide) (by decide) ?_
    exact ⟨by rw [h0], by omega, by omega, A1, _, hK1, s2, w2, fun _ => rfl⟩
theorem c_L_pointsOfMet (hst : l.stackTraces = false) {p0 : Int32} (hC : xx_C G l yX6_pointsOfMet mX6_pointsOfMet 7 111 1 6 [.ref b, .int p0] A n (xQ (exA eIO) a n K)) (hX : xx_w b (layX b) A) (hO : xx_w ho [(0, .inl (3, 1, .inr (.inl f0)))] A) (hk : ∀ A1, K A1 → xx_w ho [(0, .inl (3, 1, .inr (.inl f0)))] A1) (hex : a.1 = 0 ∨ a.1 = 1) : xx_C G l yL_pointsOfMet mL_pointsOfMet 8 132 1 6 [.ref b, .int p0, .ref ho] A n (wQ a n ho K) := by
  refine J_CH hst (by decide +kernel) rfl rfl rfl (Nat.le_of_ble_eq_true rfl) ?_
  show xx_J _ _ _ _ _ _ _ _ 0 [(0, _), (1, _), (2, _)] [] _ _ _ _
  refine J_aload_n dL_pointsOfMet_0 rfl rfl ?_
  refine J_iconst (v := 0) dL_pointsOfMet_1 (by decide) ?_
  refine J_aload_n dL_pointsOfMet_2 rfl rfl ?_
  refine J_iload_n dL_pointsOfMet_3 rfl rfl ?_
  refine J_callV (As := [_]) dL_pointsOfMet_4 ml_L_47 cal_X6_pointsOfMet im_X6_pointsOfMet se_X6_pointsOfMet (hX.at 0 rfl) rfl rfl rfl (Nat.le_of_ble_eq_true rfl) ⟨by decide, by decide⟩ ⟨by decide, by decide⟩ (hC) (fun E1 A1 n1 _ hQ1 => ?_) (fun v1 A1 n1 _ hQ1 => ?_)
  · obtain ⟨en1, er1, hK1⟩ := hQ1
    have en1 := en1.symm
    subst en1
    obtain ⟨h0, ev1⟩ := ans_x er1
    have hO1 := hk A1 hK1
    rcases hex with z | z
    · exact absurd z h0
    · have eE1 : E1 = eIO := by first | (rw [ev1, z]; done) | (rw [ev1, z]; rfl)
      subst eE1
      refine JX_catch (name := eIO) [] ⟨0, 9, 12, 24⟩ [] rfl (fun z hz => nomatch hz) (by decide) (by decide) cl_L_24 ca_IO ?_
      refine J_astore_n (L' := [(3, _), (0, _), (1, _), (2, _)]) dL_pointsOfMet_12 rfl (by decide) rfl ?_
      refine J_iconst (v := 1) dL_pointsOfMet_13 (by decide) ?_
      refine J_ireturn dL_pointsOfMet_14 rfl rfl (by decide) (by decide) ?_
      exact ⟨by rw [z], by omega, by omega, A1, _, hK1, xx_o1.rf, hO1, fun y => absurd y h0⟩
  · obtain ⟨en1, er1, hK1⟩ := hQ1
    have en1 := en1.symm
    subst en1
    obtain ⟨h0, ev1⟩ := ans_v er1
    subst ev1
    have hO1 := hk A1 hK1
    refine J_i2l dL_pointsOfMet_7 rfl ?_
    refine J_lastN 0 dL_pointsOfMet_8 (hO1.at 0 rfl) rfl (by omega) (by decide) ?_
    refine J_genA (wO_a0 hO1 _) ((xx_o1.rf (ho := ho)).put (by omega) (by omega) _) (fun A2 w2 s2 o2 => ?_)
    refine J_goto (tgt := 15) dL_pointsOfMet_9 rfl ?_
    refine J_iconst (v := 0) dL_pointsOfMet_15 (by decide) ?_
    refine J_ireturn dL_pointsOfMet_16 rfl rfl (by decide) (by decide) ?_
    exact ⟨by rw [h0], by omega, by omega, A1, _, hK1, s2, w2, fun _ => rfl⟩
theorem c_L_rankOf (hst : l.stackTraces = false) {p0 : Int32} (hC : xx_C G l yX6_rankOf mX6_rankOf 7 111 1 6 [.ref b, .int p0] A n (xQ (exA eIO) a n K)) (hX : xx_w b (layX b) A) (hO : xx_w ho [(0, .inl (3, 1, .inr (.inl f0)))] A) (hk : ∀ A1, K A1 → xx_w ho [(0, .inl (3, 1, .inr (.inl f0)))] A1) (hex : a.1 = 0 ∨ a.1 = 1) : xx_C G l yL_rankOf mL_rankOf 8 132 1 6 [.ref b, .int p0, .ref ho] A n (wQ a n ho K) := by
  refine J_CH hst (by decide +kernel) rfl rfl rfl (Nat.le_of_ble_eq_true rfl) ?_
  show xx_J _ _ _ _ _ _ _ _ 0 [(0, _), (1, _), (2, _)] [] _ _ _ _
  refine J_aload_n dL_rankOf_0 rfl rfl ?_
  refine J_iconst (v := 0) dL_rankOf_1 (by decide) ?_
  refine J_aload_n dL_rankOf_2 rfl rfl ?_
  refine J_iload_n dL_rankOf_3 rfl rfl ?_
  refine J_callV (As := [_]) dL_rankOf_4 ml_L_50 cal_X6_rankOf im_X6_rankOf se_X6_rankOf (hX.at 0 rfl) rfl rfl rfl (Nat.le_of_ble_eq_true rfl) ⟨by decide, by decide⟩ ⟨by decide, by decide⟩ (hC) (fun E1 A1 n1 _ hQ1 => ?_) (fun v1 A1 n1 _ hQ1 => ?_)
  · obtain ⟨en1, er1, hK1⟩ := hQ1
    have en1 := en1.symm
    subst en1
    obtain ⟨h0, ev1⟩ := ans_x er1
    have hO1 := hk A1 hK1
    rcases hex with z | z
    · exact absurd z h0
    · have eE1 : E1 = eIO := by first | (rw [ev1, z]; done) | (rw [ev1, z]; rfl)
      subst eE1
      refine JX_catch (name := eIO) [] ⟨0, 9, 12, 24⟩ [] rfl (fun z hz => nomatch hz) (by decide) (by decide) cl_L_24 ca_IO ?_
      refine J_astore_n (L' := [(3, _), (0, _), (1, _), (2, _)]) dL_rankOf_12 rfl (by decide) rfl ?_
      refine J_iconst (v := 1) dL_rankOf_13 (by decide) ?_
      refine J_ireturn dL_rankOf_14 rfl rfl (by decide) (by decide) ?_
      exact ⟨by rw [z], by omega, by omega, A1, _, hK1, xx_o1.rf, hO1, fun y => absurd y h0⟩
  · obtain ⟨en1, er1, hK1⟩ := hQ1
    have en1 := en1.symm
    subst en1
    obtain ⟨h0, ev1⟩ := ans_v er1
    subst ev1
    have hO1 := hk A1 hK1
    refine J_i2l dL_rankOf_7 rfl ?_
    refine J_lastN 0 dL_rankOf_8 (hO1.at 0 rfl) rfl (by omega) (by decide) ?_
    refine J_genA (wO_a0 hO1 _) ((xx_o1.rf (ho := ho)).put (by omega) (by omega) _) (fun A2 w2 s2 o2 => ?_)
    refine J_goto (tgt := 15) dL_rankOf_9 rfl ?_
    refine J_iconst (v := 0) dL_rankOf_15 (by decide) ?_
    refine J_ireturn dL_rankOf_16 rfl rfl (by decide) (by decide) ?_
    exact ⟨by rw [h0], by omega, by omega, A1, _, hK1, s2, w2, fun _ => rfl⟩
theorem c_L_redOf (hst : l.stackTraces = false) {p0 : Int32} (hC : xx_C G l yX6_redOf mX6_redOf 7 111 1 6 [.ref b, .int p0] A n (xQ (exA eIO) a n K)) (hX : xx_w b (layX b) A) (hO : xx_w ho [(0, .inl (3, 1, .inr (.inl f0)))] A) (hk : ∀ A1, K A1 → xx_w ho [(0, .inl (3, 1, .inr (.inl f0)))] A1) (hex : a.1 = 0 ∨ a.1 = 1) : xx_C G l yL_redOf mL_redOf 8 132 1 6 [.ref b, .int p0, .ref ho] A n (wQ a n ho K) := by
  refine J_CH hst (by decide +kernel) rfl rfl rfl (Nat.le_of_ble_eq_true rfl) ?_
  show xx_J _ _ _ _ _ _ _ _ 0 [(0, _), (1, _), (2, _)] [] _ _ _ _
  refine J_aload_n dL_redOf_0 rfl rfl ?_
  refine J_iconst (v := 0) dL_redOf_1 (by decide) ?_
  refine J_aload_n dL_redOf_2 rfl rfl ?_
  refine J_iload_n dL_redOf_3 rfl rfl ?_
  refine J_callV (As := [_]) dL_redOf_4 ml_L_64 cal_X6_redOf im_X6_redOf se_X6_redOf (hX.at 0 rfl) rfl rfl rfl (Nat.le_of_ble_eq_true rfl) ⟨by decide, by decide⟩ ⟨by decide, by decide⟩ (hC) (fun E1 A1 n1 _ hQ1 => ?_) (fun v1 A1 n1 _ hQ1 => ?_)
  · obtain ⟨en1, er1, hK1⟩ := hQ1
    have en1 := en1.symm
    subst en1
    obtain ⟨h0, ev1⟩ := ans_x er1
    have hO1 := hk A1 hK1
    rcases hex with z | z
    · exact absurd z h0
    · have eE1 : E1 = eIO := by first | (rw [ev1, z]; done) | (rw [ev1, z]; rfl)
      subst eE1
      refine JX_catch (name := eIO) [] ⟨0, 9, 12, 24⟩ [] rfl (fun z hz => nomatch hz) (by decide) (by decide) cl_L_24 ca_IO ?_
      refine J_astore_n (L' := [(3, _), (0, _), (1, _), (2, _)]) dL_redOf_12 rfl (by decide) rfl ?_
      refine J_iconst (v := 1) dL_redOf_13 (by decide) ?_
      refine J_ireturn dL_redOf_14 rfl rfl (by decide) (by decide) ?_
      exact ⟨by rw [z], by omega, by omega, A1, _, hK1, xx_o1.rf, hO1, fun y => absurd y h0⟩
  · obtain ⟨en1, er1, hK1⟩ := hQ1
    have en1 := en1.symm
    subst en1
    obtain ⟨h0, ev1⟩ := ans_v er1
    subst ev1
    have hO1 := hk A1 hK1
    refine J_i2l dL_redOf_7 rfl ?_
    refine J_lastN 0 dL_redOf_8 (hO1.at 0 rfl) rfl (by omega) (by decide) ?_
    refine J_genA (wO_a0 hO1 _) ((xx_o1.rf (ho := ho)).put (by omega) (by omega) _) (fun A2 w2 s2 o2 => ?_)
    refine J_goto (tgt := 15) dL_redOf_9 rfl ?_
    refine J_iconst (v := 0) dL_redOf_15 (by decide) ?_
    refine J_ireturn dL_redOf_16 rfl rfl (by decide) (by decide) ?_
    exact ⟨by rw [h0], by omega, by omega, A1, _, hK1, s2, w2, fun _ => rfl⟩
theorem c_L_restingOne (hst : l.stackTraces = false)  (hC : xx_C G l yX6_restingOne mX6_restingOne 6 90 1 6 [.ref b] A n (xQ (exA eIS) a n K)) (hX : xx_w b (layX b) A) (hO : xx_w ho [(0, .inl (3, 1, .inr (.inl f0)))] A) (hk : ∀ A1, K A1 → xx_w ho [(0, .inl (3, 1, .inr (.inl f0)))] A1) (hex : a.1 = 0 ∨ a.1 = 1) : xx_C G l yL_restingOne mL_restingOne 7 110 1 6 [.ref b, .ref ho] A n (wQ a n ho K) := by
  refine J_CH hst (by decide +kernel) rfl rfl rfl (Nat.le_of_ble_eq_true rfl) ?_
  show xx_J _ _ _ _ _ _ _ _ 0 [(0, _), (1, _)] [] _ _ _ _
  refine J_aload_n dL_restingOne_0 rfl rfl ?_
  refine J_iconst (v := 0) dL_restingOne_1 (by decide) ?_
  refine J_aload_n dL_restingOne_2 rfl rfl ?_
  refine J_callV (As := []) dL_restingOne_3 ml_L_79 cal_X6_restingOne im_X6_restingOne se_X6_restingOne (hX.at 0 rfl) rfl rfl rfl (Nat.le_of_ble_eq_true rfl) ⟨by decide, by decide⟩ ⟨by decide, by decide⟩ (hC) (fun E1 A1 n1 _ hQ1 => ?_) (fun v1 A1 n1 _ hQ1 => ?_)
  · obtain ⟨en1, er1, hK1⟩ := hQ1
    have en1 := en1.symm
    subst en1
    obtain ⟨h0, ev1⟩ := ans_x er1
    have hO1 := hk A1 hK1
    rcases hex with z | z
    · exact absurd z h0
    · have eE1 : E1 = eIS := by first | (rw [ev1, z]; done) | (rw [ev1, z]; rfl)
      subst eE1
      refine JX_catch (name := eIS) [] ⟨0, 8, 11, 13⟩ [] rfl (fun z hz => nomatch hz) (by decide) (by decide) cl_L_13 ca_IS ?_
      refine J_astore_n (L' := [(2, _), (0, _), (1, _)]) dL_restingOne_11 rfl (by decide) rfl ?_
      refine J_iconst (v := 1) dL_restingOne_12 (by decide) ?_
      refine J_ireturn dL_restingOne_13 rfl rfl (by decide) (by decide) ?_
      exact ⟨by rw [z], by omega, by omega, A1, _, hK1, xx_o1.rf, hO1, fun y => absurd y h0⟩
  · obtain ⟨en1, er1, hK1⟩ := hQ1
    have en1 := en1.symm
    subst en1
    obtain ⟨h0, ev1⟩ := ans_v er1
    subst ev1
    have hO1 := hk A1 hK1
    refine J_i2l dL_restingOne_6 rfl ?_
    refine J_lastN 0 dL_restingOne_7 (hO1.at 0 rfl) rfl (by omega) (by decide) ?_
    refine J_genA (wO_a0 hO1 _) ((xx_o1.rf (ho := ho)).put (by omega) (by omega) _) (fun A2 w2 s2 o2 => ?_)
    refine J_goto (tgt := 14) dL_restingOne_8 rfl ?_
    refine J_iconst (v := 0) dL_restingOne_14 (by decide) ?_
    refine J_ireturn dL_restingOne_15 rfl rfl (by decide) (by decide) ?_
    exact ⟨by rw [h0], by omega, by omega, A1, _, hK1, s2, w2, fun _ => rfl⟩
theorem c_L_restsOf (hst : l.stackTraces = false) {p0 : Int32} (hC : xx_C G l yX6_restsOf mX6_restsOf 7 111 1 6 [.ref b, .int p0] A n (xQ (exA eIO) a n K)) (hX : xx_w b (layX b) A) (hO : xx_w ho [(0, .inl (3, 1, .inr (.inl f0)))] A) (hk : ∀ A1, K A1 → xx_w ho [(0, .inl (3, 1, .inr (.inl f0)))] A1) (hex : a.1 = 0 ∨ a.1 = 1) : xx_C G l yL_restsOf mL_restsOf 8 132 1 6 [.ref b, .int p0, .ref ho] A n (wQ a n ho K) := by
  refine J_CH hst (by decide +kernel) rfl rfl rfl (Nat.le_of_ble_eq_true rfl) ?_
  show xx_J _ _ _ _ _ _ _ _ 0 [(0, _), (1, _), (2, _)] [] _ _ _ _
  refine J_aload_n dL_restsOf_0 rfl rfl ?_
  refine J_iconst (v := 0) dL_restsOf_1 (by decide) ?_
  refine J_aload_n dL_restsOf_2 rfl rfl ?_
  refine J_iload_n dL_restsOf_3 rfl rfl ?_
  refine J_callV (As := [_]) dL_restsOf_4 ml_L_38 cal_X6_restsOf im_X6_restsOf se_X6_restsOf (hX.at 0 rfl) rfl rfl rfl (Nat.le_of_ble_eq_true rfl) ⟨by decide, by decide⟩ ⟨by decide, by decide⟩ (hC) (fun E1 A1 n1 _ hQ1 => ?_) (fun v1 A1 n1 _ hQ1 => ?_)
  · obtain ⟨en1, er1, hK1⟩ := hQ1
    have en1 := en1.symm
    subst en1
    obtain ⟨h0, ev1⟩ := ans_x er1
    have hO1 := hk A1 hK1
    rcases hex with z | z
    · exact absurd z h0
    · have eE1 : E1 = eIO := by first | (rw [ev1, z]; done) | (rw [ev1, z]; rfl)
      subst eE1
      refine JX_catch (name := eIO) [] ⟨0, 9, 12, 24⟩ [] rfl (fun z hz => nomatch hz) (by decide) (by decide) cl_L_24 ca_IO ?_
      refine J_astore_n (L' := [(3, _), (0, _), (1, _), (2, _)]) dL_restsOf_12 rfl (by decide) rfl ?_
      refine J_iconst (v := 1) dL_restsOf_13 (by decide) ?_
      refine J_ireturn dL_restsOf_14 rfl rfl (by decide) (by decide) ?_
      exact ⟨by rw [z], by omega, by omega, A1, _, hK1, xx_o1.rf, hO1, fun y => absurd y h0⟩
  · obtain ⟨en1, er1, hK1⟩ := hQ1
    have en1 := en1.symm
    subst en1
    obtain ⟨h0, ev1⟩ := ans_v er1
    subst ev1
    have hO1 := hk A1 hK1
    refine J_i2l dL_restsOf_7 rfl ?_
    refine J_lastN 0 dL_restsOf_8 (hO1.at 0 rfl) rfl (by omega) (by decide) ?_
    refine J_genA (wO_a0 hO1 _) ((xx_o1.rf (ho := ho)).put (by omega) (by omega) _) (fun A2 w2 s2 o2 => ?_)
    refine J_goto (tgt := 15) dL_restsOf_9 rfl ?_
    refine J_iconst (v := 0) dL_restsOf_15 (by decide) ?_
    refine J_ireturn dL_restsOf_16 rfl rfl (by decide) (by decide) ?_
    exact ⟨by rw [h0], by omega, by omega, A1, _, hK1, s2, w2, fun _ => rfl⟩
theorem c_L_ruledOutcome (hst : l.stackTraces = false) {p0 : Int32} (hC : xx_C G l yX6_ruledOutcome mX6_ruledOutcome 7 119 1 6 [.ref b, .int p0] A n (xQ (exA eIO) a n K)) (hX : xx_w b (layX b) A) (hO : xx_w ho [(0, .inl (3, 1, .inr (.inl f0)))] A) (hk : ∀ A1, K A1 → xx_w ho [(0, .inl (3, 1, .inr (.inl f0)))] A1) (hex : a.1 = 0 ∨ a.1 = 1) : xx_C G l yL_ruledOutcome mL_ruledOutcome 8 140 1 6 [.ref b, .int p0, .ref ho] A n (wQ a n ho K) := by
  refine J_CH hst (by decide +kernel) rfl rfl rfl (Nat.le_of_ble_eq_true rfl) ?_
  show xx_J _ _ _ _ _ _ _ _ 0 [(0, _), (1, _), (2, _)] [] _ _ _ _
  refine J_aload_n dL_ruledOutcome_0 rfl rfl ?_
  refine J_iconst (v := 0) dL_ruledOutcome_1 (by decide) ?_
  refine J_aload_n dL_ruledOutcome_2 rfl rfl ?_
  refine J_iload_n dL_ruledOutcome_3 rfl rfl ?_
  refine J_callV (As := [_]) dL_ruledOutcome_4 ml_L_73 cal_X6_ruledOutcome im_X6_ruledOutcome se_X6_ruledOutcome (hX.at 0 rfl) rfl rfl rfl (Nat.le_of_ble_eq_true rfl) ⟨by decide, by decide⟩ ⟨by decide, by decide⟩ (hC) (fun E1 A1 n1 _ hQ1 => ?_) (fun v1 A1 n1 _ hQ1 => ?_)
  · obtain ⟨en1, er1, hK1⟩ := hQ1
    have en1 := en1.symm
    subst en1
    obtain ⟨h0, ev1⟩ := ans_x er1
    have hO1 := hk A1 hK1
    rcases hex with z | z
    · exact absurd z h0
    · have eE1 : E1 = eIO := by first | (rw [ev1, z]; done) | (rw [ev1, z]; rfl)
      subst eE1
      refine JX_catch (name := eIO) [] ⟨0, 9, 12, 24⟩ [] rfl (fun z hz => nomatch hz) (by decide) (by decide) cl_L_24 ca_IO ?_
      refine J_astore_n (L' := [(3, _), (0, _), (1, _), (2, _)]) dL_ruledOutcome_12 rfl (by decide) rfl ?_
      refine J_iconst (v := 1) dL_ruledOutcome_13 (by decide) ?_
      refine J_ireturn dL_ruledOutcome_14 rfl rfl (by decide) (by decide) ?_
      exact ⟨by rw [z], by omega, by omega, A1, _, hK1, xx_o1.rf, hO1, fun y => absurd y h0⟩
  · obtain ⟨en1, er1, hK1⟩ := hQ1
    have en1 := en1.symm
    subst en1
    obtain ⟨h0, ev1⟩ := ans_v er1
    subst ev1
    have hO1 := hk A1 hK1
    refine J_i2l dL_ruledOutcome_7 rfl ?_
    refine J_lastN 0 dL_ruledOutcome_8 (hO1.at 0 rfl) rfl (by omega) (by decide) ?_
    refine J_genA (wO_a0 hO1 _) ((xx_o1.rf (ho := ho)).put (by omega) (by omega) _) (fun A2 w2 s2 o2 => ?_)
    refine J_goto (tgt := 15) dL_ruledOutcome_9 rfl ?_
    refine J_iconst (v := 0) dL_ruledOutcome_15 (by decide) ?_
    refine J_ireturn dL_ruledOutcome_16 rfl rfl (by decide) (by decide) ?_
    exact ⟨by rw [h0], by omega, by omega, A1, _, hK1, s2, w2, fun _ => rfl⟩
theorem c_L_strengthOf (hst : l.stackTraces = false) {p0 : Int32} (hC : xx_C G l yX6_strengthOf mX6_strengthOf 7 111 1 6 [.ref b, .int p0] A n (xQ (exA eIO) a n K)) (hX : xx_w b (layX b) A) (hO : xx_w ho [(0, .inl (3, 1, .inr (.inl f0)))] A) (hk : ∀ A1, K A1 → xx_w ho [(0, .inl (3, 1, .inr (.inl f0)))] A1) (hex : a.1 = 0 ∨ a.1 = 1) : xx_C G l yL_strengthOf mL_strengthOf 8 132 1 6 [.ref b, .int p0, .ref ho] A n (wQ a n ho K) := by
  refine J_CH hst (by decide +kernel) rfl rfl rfl (Nat.le_of_ble_eq_true rfl) ?_
  show xx_J _ _ _ _ _ _ _ _ 0 [(0, _), (1, _), (2, _)] [] _ _ _ _
  refine J_aload_n dL_strengthOf_0 rfl rfl ?_
  refine J_iconst (v := 0) dL_strengthOf_1 (by decide) ?_
  refine J_aload_n dL_strengthOf_2 rfl rfl ?_
  refine J_iload_n dL_strengthOf_3 rfl rfl ?_
  refine J_callV (As := [_]) dL_strengthOf_4 ml_L_21 cal_X6_strengthOf im_X6_strengthOf se_X6_strengthOf (hX.at 0 rfl) rfl rfl rfl (Nat.le_of_ble_eq_true rfl) ⟨by decide, by decide⟩ ⟨by decide, by decide⟩ (hC) (fun E1 A1 n1 _ hQ1 => ?_) (fun v1 A1 n1 _ hQ1 => ?_)
  · obtain ⟨en1, er1, hK1⟩ := hQ1
    have en1 := en1.symm
    subst en1
    obtain ⟨h0, ev1⟩ := ans_x er1
    have hO1 := hk A1 hK1
    rcases hex with z | z
    · exact absurd z h0
    · have eE1 : E1 = eIO := by first | (rw [ev1, z]; done) | (rw [ev1, z]; rfl)
      subst eE1
      refine JX_catch (name := eIO) [] ⟨0, 9, 12, 24⟩ [] rfl (fun z hz => nomatch hz) (by decide) (by decide) cl_L_24 ca_IO ?_
      refine J_astore_n (L' := [(3, _), (0, _), (1, _), (2, _)]) dL_strengthOf_12 rfl (by decide) rfl ?_
      refine J_iconst (v := 1) dL_strengthOf_13 (by decide) ?_
      refine J_ireturn dL_strengthOf_14 rfl rfl (by decide) (by decide) ?_
      exact ⟨by rw [z], by omega, by omega, A1, _, hK1, xx_o1.rf, hO1, fun y => absurd y h0⟩
  · obtain ⟨en1, er1, hK1⟩ := hQ1
    have en1 := en1.symm
    subst en1
    obtain ⟨h0, ev1⟩ := ans_v er1
    subst ev1
    have hO1 := hk A1 hK1
    refine J_i2l dL_strengthOf_7 rfl ?_
    refine J_lastN 0 dL_strengthOf_8 (hO1.at 0 rfl) rfl (by omega) (by decide) ?_
    refine J_genA (wO_a0 hO1 _) ((xx_o1.rf (ho := ho)).put (by omega) (by omega) _) (fun A2 w2 s2 o2 => ?_)
    refine J_goto (tgt := 15) dL_strengthOf_9 rfl ?_
    refine J_iconst (v := 0) dL_strengthOf_15 (by decide) ?_
    refine J_ireturn dL_strengthOf_16 rfl rfl (by decide) (by decide) ?_
    exact ⟨by rw [h0], by omega, by omega, A1, _, hK1, s2, w2, fun _ => rfl⟩
theorem c_L_tell (hst : l.stackTraces = false) {p0 : Int32} {p1 : Int32} (hC : xx_C G l yX6_tell mX6_tell 7 112 2 12 [.ref b, .int p0, .int p1] A n (xQ (exC eIO eIA eIS) a n K)) (hX : xx_w b (layX b) A) (hO : xx_w ho [(0, .inl (3, 1, .inr (.inl f0)))] A) (hk : ∀ A1, K A1 → xx_w ho [(0, .inl (3, 1, .inr (.inl f0)))] A1) (hex : a.1 = 0 ∨ a.1 = 1 ∨ a.1 = 2 ∨ a.1 = 3) : xx_C G l yL_tell mL_tell 8 134 2 12 [.ref b, .int p0, .int p1, .ref ho] A n (wQ a n ho K) := by
  refine J_CH hst (by decide +kernel) rfl rfl rfl (Nat.le_of_ble_eq_true rfl) ?_
  show xx_J _ _ _ _ _ _ _ _ 0 [(0, _), (1, _), (2, _), (3, _)] [] _ _ _ _
  refine J_aload_n dL_tell_0 rfl rfl ?_
  refine J_iconst (v := 0) dL_tell_1 (by decide) ?_
  refine J_aload_n dL_tell_2 rfl rfl ?_
  refine J_iload_n dL_tell_3 rfl rfl ?_
  refine J_iload_n dL_tell_4 rfl rfl ?_
  refine J_callV (As := [_, _]) dL_tell_5 ml_L_86 cal_X6_tell im_X6_tell se_X6_tell (hX.at 0 rfl) rfl rfl rfl (Nat.le_of_ble_eq_true rfl) ⟨by decide, by decide⟩ ⟨by decide, by decide⟩ (hC) (fun E1 A1 n1 _ hQ1 => ?_) (fun v1 A1 n1 _ hQ1 => ?_)
  · obtain ⟨en1, er1, hK1⟩ := hQ1
    have en1 := en1.symm
    subst en1
    obtain ⟨h0, ev1⟩ := ans_x er1
    have hO1 := hk A1 hK1
    rcases hex with z | z | z | z
    · exact absurd z h0
    · have eE1 : E1 = eIO := by first | (rw [ev1, z]; done) | (rw [ev1, z]; rfl)
      subst eE1
      refine JX_catch (name := eIO) [] ⟨0, 10, 13, 24⟩ [⟨0, 10, 17, 19⟩, ⟨0, 10, 21, 13⟩] rfl (fun z hz => nomatch hz) (by decide) (by decide) cl_L_24 ca_IO ?_
      refine J_astore (L' := [(4, _), (0, _), (1, _), (2, _), (3, _)]) dL_tell_13 (by decide) rfl ?_
      refine J_iconst (v := 1) dL_tell_15 (by decide) ?_
      refine J_ireturn dL_tell_16 rfl rfl (by decide) (by decide) ?_
      exact ⟨by rw [z], by omega, by omega, A1, _, hK1, xx_o1.rf, hO1, fun y => absurd y h0⟩
    · have eE1 : E1 = eIA := by first | (rw [ev1, z]; done) | (rw [ev1, z]; rfl)
      subst eE1
      refine JX_catch (name := eIA) [⟨0, 10, 13, 24⟩] ⟨0, 10, 17, 19⟩ [⟨0, 10, 21, 13⟩] rfl (fun z hz => by
        simp only [List.mem_cons, List.not_mem_nil, or_false] at hz
        subst hz
        exact ⟨by decide, _, cl_L_24, by decide⟩) (by decide) (by decide) cl_L_19 ca_IA ?_
      refine J_astore (L' := [(4, _), (0, _), (1, _), (2, _), (3, _)]) dL_tell_17 (by decide) rfl ?_
      refine J_iconst (v := 2) dL_tell_19 (by decide) ?_
      refine J_ireturn dL_tell_20 rfl rfl (by decide) (by decide) ?_
      exact ⟨by rw [z], by omega, by omega, A1, _, hK1, xx_o1.rf, hO1, fun y => absurd y h0⟩
    · have eE1 : E1 = eIS := by first | (rw [ev1, z]; done) | (rw [ev1, z]; rfl)
      subst eE1
      refine JX_catch (name := eIS) [⟨0, 10, 13, 24⟩, ⟨0, 10, 17, 19⟩] ⟨0, 10, 21, 13⟩ [] rfl (fun z hz => by
        simp only [List.mem_cons, List.not_mem_nil, or_false] at hz
        rcases hz with rfl | rfl
        · exact ⟨by decide, _, cl_L_24, by decide⟩
        · exact ⟨by decide, _, cl_L_19, by decide⟩) (by decide) (by decide) cl_L_13 ca_IS ?_
      refine J_astore (L' := [(4, _), (0, _), (1, _), (2, _), (3, _)]) dL_tell_21 (by decide) rfl ?_
      refine J_iconst (v := 3) dL_tell_23 (by decide) ?_
      refine J_ireturn dL_tell_24 rfl rfl (by decide) (by decide) ?_
      exact ⟨by rw [z], by omega, by omega, A1, _, hK1, xx_o1.rf, hO1, fun y => absurd y h0⟩
  · obtain ⟨en1, er1, hK1⟩ := hQ1
    have en1 := en1.symm
    subst en1
    obtain ⟨h0, ev1⟩ := ans_v er1
    subst ev1
    have hO1 := hk A1 hK1
    refine J_i2l dL_tell_8 rfl ?_
    refine J_lastN 0 dL_tell_9 (hO1.at 0 rfl) rfl (by omega) (by decide) ?_
    refine J_genA (wO_a0 hO1 _) ((xx_o1.rf (ho := ho)).put (by omega) (by omega) _) (fun A2 w2 s2 o2 => ?_)
    refine J_goto (tgt := 25) dL_tell_10 rfl ?_
    refine J_iconst (v := 0) dL_tell_25 (by decide) ?_
    refine J_ireturn dL_tell_26 rfl rfl (by decide) (by decide) ?_
    exact ⟨by rw [h0], by omega, by omega, A1, _, hK1, s2, w2, fun _ => rfl⟩
theorem c_L_tellByRules (hst : l.stackTraces = false)  (hC : xx_C G l yX6_tellByRules mX6_tellByRules 6 143 1 6 [.ref b] A n (xQ (exA eIS) a n K)) (hX : xx_w b (layX b) A) (hO : xx_w ho [(0, .inl (3, 1, .inr (.inl f0)))] A) (hk : ∀ A1, K A1 → xx_w ho [(0, .inl (3, 1, .inr (.inl f0)))] A1) (hex : a.1 = 0 ∨ a.1 = 1) : xx_C G l yL_tellByRules mL_tellByRules 7 163 1 6 [.ref b, .ref ho] A n (wQ a n ho K) := by
  refine J_CH hst (by decide +kernel) rfl rfl rfl (Nat.le_of_ble_eq_true rfl) ?_
  show xx_J _ _ _ _ _ _ _ _ 0 [(0, _), (1, _)] [] _ _ _ _
  refine J_aload_n dL_tellByRules_0 rfl rfl ?_
  refine J_iconst (v := 0) dL_tellByRules_1 (by decide) ?_
  refine J_aload_n dL_tellByRules_2 rfl rfl ?_
  refine J_callV (As := []) dL_tellByRules_3 ml_L_89 cal_X6_tellByRules im_X6_tellByRules se_X6_tellByRules (hX.at 0 rfl) rfl rfl rfl (Nat.le_of_ble_eq_true rfl) ⟨by decide, by decide⟩ ⟨by decide, by decide⟩ (hC) (fun E1 A1 n1 _ hQ1 => ?_) (fun v1 A1 n1 _ hQ1 => ?_)
  · obtain ⟨en1, er1, hK1⟩ := hQ1
    have en1 := en1.symm
    subst en1
    obtain ⟨h0, ev1⟩ := ans_x er1
    have hO1 := hk A1 hK1
    rcases hex with z | z
    · exact absurd z h0
    · have eE1 : E1 = eIS := by first | (rw [ev1, z]; done) | (rw [ev1, z]; rfl)
      subst eE1
      refine JX_catch (name := eIS) [] ⟨0, 8, 11, 13⟩ [] rfl (fun z hz => nomatch hz) (by decide) (by decide) cl_L_13 ca_IS ?_
      refine J_astore_n (L' := [(2, _), (0, _), (1, _)]) dL_tellByRules_11 rfl (by decide) rfl ?_
      refine J_iconst (v := 1) dL_tellByRules_12 (by decide) ?_
      refine J_ireturn dL_tellByRules_13 rfl rfl (by decide) (by decide) ?_
      exact ⟨by rw [z], by omega, by omega, A1, _, hK1, xx_o1.rf, hO1, fun y => absurd y h0⟩
  · obtain ⟨en1, er1, hK1⟩ := hQ1
    have en1 := en1.symm
    subst en1
    obtain ⟨h0, ev1⟩ := ans_v er1
    subst ev1
    have hO1 := hk A1 hK1
    refine J_i2l dL_tellByRules_6 rfl ?_
    refine J_lastN 0 dL_tellByRules_7 (hO1.at 0 rfl) rfl (by omega) (by decide) ?_
    refine J_genA (wO_a0 hO1 _) ((xx_o1.rf (ho := ho)).put (by omega) (by omega) _) (fun A2 w2 s2 o2 => ?_)
    refine J_goto (tgt := 14) dL_tellByRules_8 rfl ?_
    refine J_iconst (v := 0) dL_tellByRules_14 (by decide) ?_
    refine J_ireturn dL_tellByRules_15 rfl rfl (by decide) (by decide) ?_
    exact ⟨by rw [h0], by omega, by omega, A1, _, hK1, s2, w2, fun _ => rfl⟩
theorem c_L_timesMet (hst : l.stackTraces = false) {p0 : Int32} {p1 : Int32} (hC : xx_C G l yX6_timesMet mX6_timesMet 7 111 2 12 [.ref b, .int p0, .int p1] A n (xQ (exA eIO) a n K)) (hX : xx_w b (layX b) A) (hO : xx_w ho [(0, .inl (3, 1, .inr (.inl f0)))] A) (hk : ∀ A1, K A1 → xx_w ho [(0, .inl (3, 1, .inr (.inl f0)))] A1) (hex : a.1 = 0 ∨ a.1 = 1) : xx_C G l yL_timesMet mL_timesMet 8 133 2 12 [.ref b, .int p0, .int p1, .ref ho] A n (wQ a n ho K) := by
  refine J_CH hst (by decide +kernel) rfl rfl rfl (Nat.le_of_ble_eq_true rfl) ?_
  show xx_J _ _ _ _ _ _ _ _ 0 [(0, _), (1, _), (2, _), (3, _)] [] _ _ _ _
  refine J_aload_n dL_timesMet_0 rfl rfl ?_
  refine J_iconst (v := 0) dL_timesMet_1 (by decide) ?_
  refine J_aload_n dL_timesMet_2 rfl rfl ?_
  refine J_iload_n dL_timesMet_3 rfl rfl ?_
  refine J_iload_n dL_timesMet_4 rfl rfl ?_
  refine J_callV (As := [_, _]) dL_timesMet_5 ml_L_60 cal_X6_timesMet im_X6_timesMet se_X6_timesMet (hX.at 0 rfl) rfl rfl rfl (Nat.le_of_ble_eq_true rfl) ⟨by decide, by decide⟩ ⟨by decide, by decide⟩ (hC) (fun E1 A1 n1 _ hQ1 => ?_) (fun v1 A1 n1 _ hQ1 => ?_)
  · obtain ⟨en1, er1, hK1⟩ := hQ1
    have en1 := en1.symm
    subst en1
    obtain ⟨h0, ev1⟩ := ans_x er1
    have hO1 := hk A1 hK1
    rcases hex with z | z
    · exact absurd z h0
    · have eE1 : E1 = eIO := by first | (rw [ev1, z]; done) | (rw [ev1, z]; rfl)
      subst eE1
      refine JX_catch (name := eIO) [] ⟨0, 10, 13, 24⟩ [] rfl (fun z hz => nomatch hz) (by decide) (by decide) cl_L_24 ca_IO ?_
      refine J_astore (L' := [(4, _), (0, _), (1, _), (2, _), (3, _)]) dL_timesMet_13 (by decide) rfl ?_
      refine J_iconst (v := 1) dL_timesMet_15 (by decide) ?_
      refine J_ireturn dL_timesMet_16 rfl rfl (by decide) (by decide) ?_
      exact ⟨by rw [z], by omega, by omega, A1, _, hK1, xx_o1.rf, hO1, fun y => absurd y h0⟩
  · obtain ⟨en1, er1, hK1⟩ := hQ1
    have en1 := en1.symm
    subst en1
    obtain ⟨h0, ev1⟩ := ans_v er1
    subst ev1
    have hO1 := hk A1 hK1
    refine J_i2l dL_timesMet_8 rfl ?_
    refine J_lastN 0 dL_timesMet_9 (hO1.at 0 rfl) rfl (by omega) (by decide) ?_
    refine J_genA (wO_a0 hO1 _) ((xx_o1.rf (ho := ho)).put (by omega) (by omega) _) (fun A2 w2 s2 o2 => ?_)
    refine J_goto (tgt := 17) dL_timesMet_10 rfl ?_
    refine J_iconst (v := 0) dL_timesMet_17 (by decide) ?_
    refine J_ireturn dL_timesMet_18 rfl rfl (by decide) (by decide) ?_
    exact ⟨by rw [h0], by omega, by omega, A1, _, hK1, s2, w2, fun _ => rfl⟩
theorem c_L_trim (hst : l.stackTraces = false) {p0 : Int32} (hC : xx_C G l yX6_trim mX6_trim 6 90 1 6 [.ref b, .int p0] A n (xQ (exA eIA) a n K)) (hX : xx_w b (layX b) A) (hO : xx_w ho [(0, .inl (3, 1, .inr (.inl f0)))] A) (hk : ∀ A1, K A1 → xx_w ho [(0, .inl (3, 1, .inr (.inl f0)))] A1) (hex : a.1 = 0 ∨ a.1 = 1) : xx_C G l yL_trim mL_trim 7 111 1 6 [.ref b, .int p0, .ref ho] A n (wQ a n ho K) := by
  refine J_CH hst (by decide +kernel) rfl rfl rfl (Nat.le_of_ble_eq_true rfl) ?_
  show xx_J _ _ _ _ _ _ _ _ 0 [(0, _), (1, _), (2, _)] [] _ _ _ _
  refine J_aload_n dL_trim_0 rfl rfl ?_
  refine J_iconst (v := 0) dL_trim_1 (by decide) ?_
  refine J_aload_n dL_trim_2 rfl rfl ?_
  refine J_iload_n dL_trim_3 rfl rfl ?_
  refine J_callV (As := [_]) dL_trim_4 ml_L_15 cal_X6_trim im_X6_trim se_X6_trim (hX.at 0 rfl) rfl rfl rfl (Nat.le_of_ble_eq_true rfl) ⟨by decide, by decide⟩ ⟨by decide, by decide⟩ (hC) (fun E1 A1 n1 _ hQ1 => ?_) (fun v1 A1 n1 _ hQ1 => ?_)
  · obtain ⟨en1, er1, hK1⟩ := hQ1
    have en1 := en1.symm
    subst en1
    obtain ⟨h0, ev1⟩ := ans_x er1
    have hO1 := hk A1 hK1
    rcases hex with z | z
    · exact absurd z h0
    · have eE1 : E1 = eIA := by first | (rw [ev1, z]; done) | (rw [ev1, z]; rfl)
      subst eE1
      refine JX_catch (name := eIA) [] ⟨0, 9, 12, 19⟩ [] rfl (fun z hz => nomatch hz) (by decide) (by decide) cl_L_19 ca_IA ?_
      refine J_astore_n (L' := [(3, _), (0, _), (1, _), (2, _)]) dL_trim_12 rfl (by decide) rfl ?_
      refine J_iconst (v := 1) dL_trim_13 (by decide) ?_
      refine J_ireturn dL_trim_14 rfl rfl (by decide) (by decide) ?_
      exact ⟨by rw [z], by omega, by omega, A1, _, hK1, xx_o1.rf, hO1, fun y => absurd y h0⟩
  · obtain ⟨en1, er1, hK1⟩ := hQ1
    have en1 := en1.symm
    subst en1
    obtain ⟨h0, ev1⟩ := ans_v er1
    subst ev1
    have hO1 := hk A1 hK1
    refine J_i2l dL_trim_7 rfl ?_
    refine J_lastN 0 dL_trim_8 (hO1.at 0 rfl) rfl (by omega) (by decide) ?_
    refine J_genA (wO_a0 hO1 _) ((xx_o1.rf (ho := ho)).put (by omega) (by omega) _) (fun A2 w2 s2 o2 => ?_)
    refine J_goto (tgt := 15) dL_trim_9 rfl ?_
    refine J_iconst (v := 0) dL_trim_15 (by decide) ?_
    refine J_ireturn dL_trim_16 rfl rfl (by decide) (by decide) ?_
    exact ⟨by rw [h0], by omega, by omega, A1, _, hK1, s2, w2, fun _ => rfl⟩
theorem c_L_turnIn (hst : l.stackTraces = false) {p0 : Int32} (hC : xx_C G l yX6_turnIn mX6_turnIn 7 111 1 6 [.ref b, .int p0] A n (xQ (exA eIO) a n K)) (hX : xx_w b (layX b) A) (hO : xx_w ho [(0, .inl (3, 1, .inr (.inl f0)))] A) (hk : ∀ A1, K A1 → xx_w ho [(0, .inl (3, 1, .inr (.inl f0)))] A1) (hex : a.1 = 0 ∨ a.1 = 1) (hbz : a.1 = 0 → a.2 = 0 ∨ a.2 = 1) : xx_C G l yL_turnIn mL_turnIn 8 132 1 6 [.ref b, .int p0, .ref ho] A n (wQ a n ho K) := by
  refine J_CH hst (by decide +kernel) rfl rfl rfl (Nat.le_of_ble_eq_true rfl) ?_
  show xx_J _ _ _ _ _ _ _ _ 0 [(0, _), (1, _), (2, _)] [] _ _ _ _
  refine J_aload_n dL_turnIn_0 rfl rfl ?_
  refine J_iconst (v := 0) dL_turnIn_1 (by decide) ?_
  refine J_aload_n dL_turnIn_2 rfl rfl ?_
  refine J_iload_n dL_turnIn_3 rfl rfl ?_
  refine J_callV (As := [_]) dL_turnIn_4 ml_L_92 cal_X6_turnIn im_X6_turnIn se_X6_turnIn (hX.at 0 rfl) rfl rfl rfl (Nat.le_of_ble_eq_true rfl) ⟨by decide, by decide⟩ ⟨by decide, by decide⟩ (hC) (fun E1 A1 n1 _ hQ1 => ?_) (fun v1 A1 n1 _ hQ1 => ?_)
  · obtain ⟨en1, er1, hK1⟩ := hQ1
    have en1 := en1.symm
    subst en1
    obtain ⟨h0, ev1⟩ := ans_x er1
    have hO1 := hk A1 hK1
    rcases hex with z | z
    · exact absurd z h0
    · have eE1 : E1 = eIO := by first | (rw [ev1, z]; done) | (rw [ev1, z]; rfl)
      subst eE1
      refine JX_catch (name := eIO) [] ⟨0, 16, 19, 24⟩ [] rfl (fun z hz => nomatch hz) (by decide) (by decide) cl_L_24 ca_IO ?_
      refine J_astore_n (L' := [(3, _), (0, _), (1, _), (2, _)]) dL_turnIn_19 rfl (by decide) rfl ?_
      refine J_iconst (v := 1) dL_turnIn_20 (by decide) ?_
      refine J_ireturn dL_turnIn_21 rfl rfl (by decide) (by decide) ?_
      exact ⟨by rw [z], by omega, by omega, A1, _, hK1, xx_o1.rf, hO1, fun y => absurd y h0⟩
  · obtain ⟨en1, er1, hK1⟩ := hQ1
    have en1 := en1.symm
    subst en1
    obtain ⟨h0, ev1⟩ := ans_v er1
    subst ev1
    have hO1 := hk A1 hK1
    refine J_if_eq (tgt := 14) dL_turnIn_7 rfl (fun h7 => ?_) (fun h7 => ?_)
    · have hb1 : a.2 = 0 := by
        rcases hbz h0 with y | y
        · exact y
        · exact absurd (y.symm.trans h7) (by decide)
      refine J_lconst (v := 0) dL_turnIn_14 (by decide) ?_
      refine J_lastN 0 dL_turnIn_15 (hO1.at 0 rfl) rfl (by omega) (by decide) ?_
      refine J_genA (wO_a0 hO1 _) ((xx_o1.rf (ho := ho)).put (by omega) (by omega) _) (fun A2 w2 s2 o2 => ?_)
      refine J_goto (tgt := 22) dL_turnIn_16 rfl ?_
      refine J_iconst (v := 0) dL_turnIn_22 (by decide) ?_
      refine J_ireturn dL_turnIn_23 rfl rfl (by decide) (by decide) ?_
      exact ⟨by rw [h0], by omega, by omega, A1, _, hK1, s2, w2, fun _ => by show (0 : Int64) = a.2.toInt64; rw [hb1]; rfl⟩
    · have hb1 : a.2 = 1 := by
        rcases hbz h0 with y | y
        · exact absurd y h7
        · exact y
      refine J_lconst (v := 1) dL_turnIn_10 (by decide) ?_
      refine J_goto (tgt := 15) dL_turnIn_11 rfl ?_
      refine J_lastN 0 dL_turnIn_15 (hO1.at 0 rfl) rfl (by omega) (by decide) ?_
      refine J_genA (wO_a0 hO1 _) ((xx_o1.rf (ho := ho)).put (by omega) (by omega) _) (fun A3 w3 s3 o3 => ?_)
      refine J_goto (tgt := 22) dL_turnIn_16 rfl ?_
      refine J_iconst (v := 0) dL_turnIn_22 (by decide) ?_
      refine J_ireturn dL_turnIn_23 rfl rfl (by decide) (by decide) ?_
      exact ⟨by rw [h0], by omega, by omega, A1, _, hK1, s3, w3, fun _ => by show (1 : Int64) = a.2.toInt64; rw [hb1]; rfl⟩
theorem c_L_winsOf (hst : l.stackTraces = false) {p0 : Int32} (hC : xx_C G l yX6_winsOf mX6_winsOf 7 111 1 6 [.ref b, .int p0] A n (xQ (exA eIO) a n K)) (hX : xx_w b (layX b) A) (hO : xx_w ho [(0, .inl (3, 1, .inr (.inl f0)))] A) (hk : ∀ A1, K A1 → xx_w ho [(0, .inl (3, 1, .inr (.inl f0)))] A1) (hex : a.1 = 0 ∨ a.1 = 1) : xx_C G l yL_winsOf mL_winsOf 8 132 1 6 [.ref b, .int p0, .ref ho] A n (wQ a n ho K) := by
  refine J_CH hst (by decide +kernel) rfl rfl rfl (Nat.le_of_ble_eq_true rfl) ?_
  show xx_J _ _ _ _ _ _ _ _ 0 [(0, _), (1, _), (2, _)] [] _ _ _ _
  refine J_aload_n dL_winsOf_0 rfl rfl ?_
  refine J_iconst (v := 0) dL_winsOf_1 (by decide) ?_
  refine J_aload_n dL_winsOf_2 rfl rfl ?_
  refine J_iload_n dL_winsOf_3 rfl rfl ?_
  refine J_callV (As := [_]) dL_winsOf_4 ml_L_29 cal_X6_winsOf im_X6_winsOf se_X6_winsOf (hX.at 0 rfl) rfl rfl rfl (Nat.le_of_ble_eq_true rfl) ⟨by decide, by decide⟩ ⟨by decide, by decide⟩ (hC) (fun E1 A1 n1 _ hQ1 => ?_) (fun v1 A1 n1 _ hQ1 => ?_)
  · obtain ⟨en1, er1, hK1⟩ := hQ1
    have en1 := en1.symm
    subst en1
    obtain ⟨h0, ev1⟩ := ans_x er1
    have hO1 := hk A1 hK1
    rcases hex with z | z
    · exact absurd z h0
    · have eE1 : E1 = eIO := by first | (rw [ev1, z]; done) | (rw [ev1, z]; rfl)
      subst eE1
      refine JX_catch (name := eIO) [] ⟨0, 9, 12, 24⟩ [] rfl (fun z hz => nomatch hz) (by decide) (by decide) cl_L_24 ca_IO ?_
      refine J_astore_n (L' := [(3, _), (0, _), (1, _), (2, _)]) dL_winsOf_12 rfl (by decide) rfl ?_
      refine J_iconst (v := 1) dL_winsOf_13 (by decide) ?_
      refine J_ireturn dL_winsOf_14 rfl rfl (by decide) (by decide) ?_
      exact ⟨by rw [z], by omega, by omega, A1, _, hK1, xx_o1.rf, hO1, fun y => absurd y h0⟩
  · obtain ⟨en1, er1, hK1⟩ := hQ1
    have en1 := en1.symm
    subst en1
    obtain ⟨h0, ev1⟩ := ans_v er1
    subst ev1
    have hO1 := hk A1 hK1
    refine J_i2l dL_winsOf_7 rfl ?_
    refine J_lastN 0 dL_winsOf_8 (hO1.at 0 rfl) rfl (by omega) (by decide) ?_
    refine J_genA (wO_a0 hO1 _) ((xx_o1.rf (ho := ho)).put (by omega) (by omega) _) (fun A2 w2 s2 o2 => ?_)
    refine J_goto (tgt := 15) dL_winsOf_9 rfl ?_
    refine J_iconst (v := 0) dL_winsOf_15 (by decide) ?_
    refine J_ireturn dL_winsOf_16 rfl rfl (by decide) (by decide) ?_
    exact ⟨by rw [h0], by omega, by omega, A1, _, hK1, s2, w2, fun _ => rfl⟩
theorem c_L_wrestlerAt (hst : l.stackTraces = false) {p0 : Int32} (hC : xx_C G l yX6_wrestlerAt mX6_wrestlerAt 6 90 1 6 [.ref b, .int p0] A n (xQ (exA eIO) a n K)) (hX : xx_w b (layX b) A) (hO : xx_w ho [(0, .inl (3, 1, .inr (.inl f0)))] A) (hk : ∀ A1, K A1 → xx_w ho [(0, .inl (3, 1, .inr (.inl f0)))] A1) (hex : a.1 = 0 ∨ a.1 = 1) : xx_C G l yL_wrestlerAt mL_wrestlerAt 7 111 1 6 [.ref b, .int p0, .ref ho] A n (wQ a n ho K) := by
  refine J_CH hst (by decide +kernel) rfl rfl rfl (Nat.le_of_ble_eq_true rfl) ?_
  show xx_J _ _ _ _ _ _ _ _ 0 [(0, _), (1, _), (2, _)] [] _ _ _ _
  refine J_aload_n dL_wrestlerAt_0 rfl rfl ?_
  refine J_iconst (v := 0) dL_wrestlerAt_1 (by decide) ?_
  refine J_aload_n dL_wrestlerAt_2 rfl rfl ?_
  refine J_iload_n dL_wrestlerAt_3 rfl rfl ?_
  refine J_callV (As := [_]) dL_wrestlerAt_4 ml_L_57 cal_X6_wrestlerAt im_X6_wrestlerAt se_X6_wrestlerAt (hX.at 0 rfl) rfl rfl rfl (Nat.le_of_ble_eq_true rfl) ⟨by decide, by decide⟩ ⟨by decide, by decide⟩ (hC) (fun E1 A1 n1 _ hQ1 => ?_) (fun v1 A1 n1 _ hQ1 => ?_)
  · obtain ⟨en1, er1, hK1⟩ := hQ1
    have en1 := en1.symm
    subst en1
    obtain ⟨h0, ev1⟩ := ans_x er1
    have hO1 := hk A1 hK1
    rcases hex with z | z
    · exact absurd z h0
    · have eE1 : E1 = eIO := by first | (rw [ev1, z]; done) | (rw [ev1, z]; rfl)
      subst eE1
      refine JX_catch (name := eIO) [] ⟨0, 9, 12, 24⟩ [] rfl (fun z hz => nomatch hz) (by decide) (by decide) cl_L_24 ca_IO ?_
      refine J_astore_n (L' := [(3, _), (0, _), (1, _), (2, _)]) dL_wrestlerAt_12 rfl (by decide) rfl ?_
      refine J_iconst (v := 1) dL_wrestlerAt_13 (by decide) ?_
      refine J_ireturn dL_wrestlerAt_14 rfl rfl (by decide) (by decide) ?_
      exact ⟨by rw [z], by omega, by omega, A1, _, hK1, xx_o1.rf, hO1, fun y => absurd y h0⟩
  · obtain ⟨en1, er1, hK1⟩ := hQ1
    have en1 := en1.symm
    subst en1
    obtain ⟨h0, ev1⟩ := ans_v er1
    subst ev1
    have hO1 := hk A1 hK1
    refine J_i2l dL_wrestlerAt_7 rfl ?_
    refine J_lastN 0 dL_wrestlerAt_8 (hO1.at 0 rfl) rfl (by omega) (by decide) ?_
    refine J_genA (wO_a0 hO1 _) ((xx_o1.rf (ho := ho)).put (by omega) (by omega) _) (fun A2 w2 s2 o2 => ?_)
    refine J_goto (tgt := 15) dL_wrestlerAt_9 rfl ?_
    refine J_iconst (v := 0) dL_wrestlerAt_15 (by decide) ?_
    refine J_ireturn dL_wrestlerAt_16 rfl rfl (by decide) (by decide) ?_
    exact ⟨by rw [h0], by omega, by omega, A1, _, hK1, s2, w2, fun _ => rfl⟩
end XLA
