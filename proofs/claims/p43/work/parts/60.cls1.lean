/-! THE CLASS: its calls that change nothing -/
section XCA
variable {G : xx_G} {l : Launch} {A A' : xx_H} {n b : Nat} {F FF R R' F2 PS : xS} {len i j k q s e t d nt tok v m nw nb r cr : Nat} {ru : xS → Nat → Nat → Int32}
/-- rules that tell by ru -/
def ruX (R : xS) (ru : xS → Nat → Nat → Int32) (cr : Nat) : Prop := ∃ en mt, R.1 6 = nI mt ∧ ruOK R en cr ∧ ∀ F i j, outL F i j R en cr 0 0 = ru F i j
theorem outL_st {st : Nat → Int32} {en : Nat → Nat} {F : xS} : ∀ d r f, outL F i j (stR R st m) en d r f = outL F i j R en d r f := by
  intro d
  induction d with
  | zero => intro r f; rfl
  | succ d ih =>
    intro r f
    show (if hldB F i j (stR R st m) f (en r) = true then (stR R st m).2 1 r else outL F i j (stR R st m) en d (r + 1) (en r)) = if hldB F i j R f (en r) = true then R.2 1 r else outL F i j R en d (r + 1) (en r)
    rw [ih]
    rfl
theorem ruX.st {st : Nat → Int32} (h : ruX R ru cr) : ruX (stR R st m) ru cr := by
  obtain ⟨en, mt, h1, h2, h3⟩ := h
  exact ⟨en, m, rfl, h2, fun F i j => (outL_st cr 0 0).trans (h3 F i j)⟩
/-- the class's tournament: rules at b + 16, field b + 22, trial b + 31, pairing b + 40 -/
def gI (b : Nat) (ru : xS → Nat → Nat → Int32) (cr nw nb r : Nat) (FF : xS) (A : xx_H) : Prop := ∃ R F F2 PS, xx_w (b + 16) (layR (b + 16) R) A ∧ xx_w (b + 22) (layF (b + 22) F) A ∧ xx_w (b + 31) (layF (b + 31) F2) A ∧ xx_w (b + 40) (layP (b + 40) PS) A ∧ ruX R ru cr ∧ eqF nw nb F FF ∧ okF F nw nb r
theorem eqF.o78 {mp o : Nat → Int32} : eqF nw nb (a_up (a_up F 8 mp) 7 o) F := ⟨⟨rfl, rfl, rfl, rfl⟩, fun _ _ => Or.inl rfl, fun _ _ _ _ => rfl, fun _ _ _ _ => rfl, fun _ _ => ⟨rfl, rfl, rfl⟩⟩
theorem c_X6_needWrestler (hst : l.stackTraces = false) (hX : xx_w b (layX b) A) (hF : xx_w (b + 22) (layF (b + 22) F) A) (w : Int32) : xx_C G l yX6_needWrestler mX6_needWrestler 6 90 1 6 [.ref b, .int w] A n (nQ (okW F w) eIO n A) := by
  refine J_C hst (by decide +kernel) rfl rfl rfl (Nat.le_of_ble_eq_true rfl) ?_
  show xx_J _ _ _ _ _ _ _ _ 0 [(0, _), (1, _)] [] _ _ _ _
  refine J_aload_n dX6_needWrestler_0 rfl rfl ?_
  refine J_getf dX6_needWrestler_1 fl_X6_31 (hX.at 0 rfl) rfl ?_
  refine J_iload_n dX6_needWrestler_4 rfl rfl ?_
  refine J_callVr (As := [_]) dX6_needWrestler_5 ml_X6_126 cal_X0_hasWrestler im_X0_hasWrestler se_X0_hasWrestler (hF.at 0 rfl) rfl rfl rfl (Nat.le_of_ble_eq_true rfl) ⟨by decide, by decide⟩ ⟨by decide, by decide⟩ (c_X0_hasWrestler hst hF _) ?_
  refine J_ifb_ne (tgt := 21) dX6_needWrestler_8 rfl (fun h8 => ?_) (fun h8 => ?_)
  · refine J_return dX6_needWrestler_21 rfl (by decide) (by decide) ?_
    exact ⟨rfl, rfl, (if_pos h8).symm⟩
  · refine J_throw (text := "no such wrestler") hst dX6_needWrestler_11 dX6_needWrestler_14 dX6_needWrestler_15 dX6_needWrestler_17 dX6_needWrestler_20 (by decide) cl_X6_130 in_java_lang_IndexOutOfBoundsException th3_X6_134 th4_X6_134 (by decide +kernel) rfl ⟨by decide, by decide⟩ (by decide) (by decide) ?_
    exact ⟨rfl, rfl, (if_neg h8).symm⟩
theorem c_X6_needBout (hst : l.stackTraces = false) (hX : xx_w b (layX b) A) (hF : xx_w (b + 22) (layF (b + 22) F) A) (w : Int32) : xx_C G l yX6_needBout mX6_needBout 6 90 1 6 [.ref b, .int w] A n (nQ (okB F w) eIO n A) := by
  refine J_C hst (by decide +kernel) rfl rfl rfl (Nat.le_of_ble_eq_true rfl) ?_
  show xx_J _ _ _ _ _ _ _ _ 0 [(0, _), (1, _)] [] _ _ _ _
  refine J_aload_n dX6_needBout_0 rfl rfl ?_
  refine J_getf dX6_needBout_1 fl_X6_31 (hX.at 0 rfl) rfl ?_
  refine J_iload_n dX6_needBout_4 rfl rfl ?_
  refine J_callVr (As := [_]) dX6_needBout_5 ml_X6_239 cal_X0_hasBout im_X0_hasBout se_X0_hasBout (hF.at 0 rfl) rfl rfl rfl (Nat.le_of_ble_eq_true rfl) ⟨by decide, by decide⟩ ⟨by decide, by decide⟩ (c_X0_hasBout hst hF _) ?_
  refine J_ifb_ne (tgt := 21) dX6_needBout_8 rfl (fun h8 => ?_) (fun h8 => ?_)
  · refine J_return dX6_needBout_21 rfl (by decide) (by decide) ?_
    exact ⟨rfl, rfl, (if_pos h8).symm⟩
  · refine J_throw (text := "no such bout in the latest round") hst dX6_needBout_11 dX6_needBout_14 dX6_needBout_15 dX6_needBout_17 dX6_needBout_20 (by decide) cl_X6_130 in_java_lang_IndexOutOfBoundsException th3_X6_134 th4_X6_134 (by decide +kernel) rfl ⟨by decide, by decide⟩ (by decide) (by decide) ?_
    exact ⟨rfl, rfl, (if_neg h8).symm⟩
theorem c_X6_needPairable (hst : l.stackTraces = false) (hX : xx_w b (layX b) A) (hF : xx_w (b + 22) (layF (b + 22) F) A) (hn : F.1 0 = nI nw) (h12 : nw ≤ 12) (hb : F.1 5 = nI nb) (h6 : nb ≤ 6) : xx_C G l yX6_needPairable mX6_needPairable 6 90 1 6 [.ref b] A n (nQ (canB F nw nb = true) eIS n A) := by
  refine J_C hst (by decide +kernel) rfl rfl rfl (Nat.le_of_ble_eq_true rfl) ?_
  show xx_J _ _ _ _ _ _ _ _ 0 [(0, _)] [] _ _ _ _
  refine J_aload_n dX6_needPairable_0 rfl rfl ?_
  refine J_getf dX6_needPairable_1 fl_X6_31 (hX.at 0 rfl) rfl ?_
  refine J_callVr (As := []) dX6_needPairable_4 ml_X6_244 cal_X0_canPair im_X0_canPair se_X0_canPair (hF.at 0 rfl) rfl rfl rfl (Nat.le_of_ble_eq_true rfl) ⟨by decide, by decide⟩ ⟨by decide, by decide⟩ (c_X0_canPair hst hF hn h12 hb h6) ?_
  refine J_ifb_ne (tgt := 20) dX6_needPairable_7 rfl (fun h7 => ?_) (fun h7 => ?_)
  · refine J_return dX6_needPairable_20 rfl (by decide) (by decide) ?_
    exact ⟨rfl, rfl, (if_pos (canB_i.mpr h7)).symm⟩
  · refine J_throw (text := "no round can be paired now") hst dX6_needPairable_10 dX6_needPairable_13 dX6_needPairable_14 dX6_needPairable_16 dX6_needPairable_19 (by decide) cl_X6_51 in_java_lang_IllegalStateException th3_X6_55 th4_X6_55 (by decide +kernel) rfl ⟨by decide, by decide⟩ (by decide) (by decide) ?_
    exact ⟨rfl, rfl, (if_neg (fun z => h7 (canB_i.mp z))).symm⟩
theorem c_X6_needRoundsAhead (hst : l.stackTraces = false) (w : Int32) : xx_C G l yX6_needRoundsAhead mX6_needRoundsAhead 6 90 1 6 [.int w] A n (nQ (1 ≤ w ∧ w ≤ 10) eIA n A) := by
  refine J_C hst (by decide +kernel) rfl rfl rfl (Nat.le_of_ble_eq_true rfl) ?_
  show xx_J _ _ _ _ _ _ _ _ 0 [(0, _)] [] _ _ _ _
  refine J_iload_n dX6_needRoundsAhead_0 rfl rfl ?_
  refine J_iconst (v := 1) dX6_needRoundsAhead_1 (by decide) ?_
  refine J_icmp_lt (tgt := 11) dX6_needRoundsAhead_2 rfl (fun h2 => ?_) (fun h2 => ?_)
  · refine J_throw (text := "rounds is not 1 to 10") hst dX6_needRoundsAhead_11 dX6_needRoundsAhead_14 dX6_needRoundsAhead_15 dX6_needRoundsAhead_17 dX6_needRoundsAhead_20 (by decide) cl_X6_62 in_java_lang_IllegalArgumentException th3_X6_66 th4_X6_66 (by decide +kernel) rfl ⟨by decide, by decide⟩ (by decide) (by decide) ?_
    exact ⟨rfl, rfl, (if_neg (fun z => absurd z.1 (Int32.not_le.mpr h2))).symm⟩
  · refine J_iload_n dX6_needRoundsAhead_5 rfl rfl ?_
    refine J_bipush (v := 10) dX6_needRoundsAhead_6 (by decide) ?_
    refine J_icmp_le (tgt := 21) dX6_needRoundsAhead_8 rfl (fun h8 => ?_) (fun h8 => ?_)
    · refine J_return dX6_needRoundsAhead_21 rfl (by decide) (by decide) ?_
      exact ⟨rfl, rfl, (if_pos ⟨Int32.not_lt.mp h2, h8⟩).symm⟩
    · refine J_throw (text := "rounds is not 1 to 10") hst dX6_needRoundsAhead_11 dX6_needRoundsAhead_14 dX6_needRoundsAhead_15 dX6_needRoundsAhead_17 dX6_needRoundsAhead_20 (by decide) cl_X6_62 in_java_lang_IllegalArgumentException th3_X6_66 th4_X6_66 (by decide +kernel) rfl ⟨by decide, by decide⟩ (by decide) (by decide) ?_
      exact ⟨rfl, rfl, (if_neg (fun z => h8 z.2)).symm⟩
set_option maxHeartbeats 1000000 in
theorem c_X6_strengthOf (hst : l.stackTraces = false) (hX : xx_w b (layX b) A) (hG : gI b ru cr nw nb r FF A) (w : Int32) : xx_C G l yX6_strengthOf mX6_strengthOf 7 111 1 6 [.ref b, .int w] A n (xQ (exA eIO) (aOf 0 FF w) n (fun A' => gI b ru cr nw nb r FF A' ∧ xx_same (b + 16) (b + 46) A A')) := by
  obtain ⟨R, F, F2, PS, hR, hF, hF2, hP, hru, he, hok⟩ := hG
  have hn : F.1 0 = nI nw := hok.1.1
  have h12 := hok.1.2
  have hb : F.1 5 = nI nb := hok.2.1.1
  have h6 := hok.2.1.2
  refine J_C hst (by decide +kernel) rfl rfl rfl (Nat.le_of_ble_eq_true rfl) ?_
  show xx_J _ _ _ _ _ _ _ _ 0 [(0, _), (1, _)] [] _ _ _ _
  refine J_aload_n dX6_strengthOf_0 rfl rfl ?_
  refine J_iload_n dX6_strengthOf_1 rfl rfl ?_
  refine J_callV (As := [_]) dX6_strengthOf_2 ml_X6_109 cal_X6_needWrestler im_X6_needWrestler se_X6_needWrestler (hX.at 0 rfl) rfl rfl rfl (Nat.le_of_ble_eq_true rfl) ⟨by decide, by decide⟩ ⟨by decide, by decide⟩ (c_X6_needWrestler hst hX hF w) (fun E1 A1 n1 _ hQ1 => ?_) (fun v1 A1 n1 _ hQ1 => ?_)
  · obtain ⟨en1, eA1, eE1, hc1⟩ := nQ_x hQ1
    subst en1; subst eA1; subst eE1
    refine JX_out rfl (by decide) (by decide) ?_
    have e0 : (aOf 0 F w) = (aOf 0 FF w) := aOf_c he hok (by decide)
    have e1 : (aOf 0 F w) = (1, 0) := by unfold aOf; rw [if_neg hc1]
    exact ⟨rfl, by rw [← e0, e1]; exact (ansR_k (ex := exA eIO) (c := 1) (by decide)).symm, ⟨⟨_, _, _, _, hR, hF, hF2, hP, hru, he, hok⟩, (xx_same.rf (b := b + 16) (e := b + 46))⟩⟩
  · obtain ⟨en1, eA1, eE1, hc1⟩ := nQ_v hQ1
    subst en1; subst eA1; subst eE1
    obtain ⟨ex1, ei1⟩ := hc1.i hn h12
    refine J_aload_n dX6_strengthOf_5 rfl rfl ?_
    refine J_getf dX6_strengthOf_6 fl_X6_31 (hX.at 0 rfl) rfl ?_
    refine J_iconst (v := 0) dX6_strengthOf_9 (by decide) ?_
    refine J_iload_n dX6_strengthOf_10 rfl rfl ?_
    refine J_callVr (As := [_, _]) dX6_strengthOf_11 ml_X6_112 cal_X0_of im_X0_of se_X0_of (hF.at 0 rfl) rfl rfl rfl (Nat.le_of_ble_eq_true rfl) ⟨by decide, by decide⟩ ⟨by decide, by decide⟩ (c_X0_of hst hF hn h12 (q := 0) rfl (by decide) ex1 ei1) ?_
    refine J_ireturn dX6_strengthOf_14 rfl rfl (by decide) (by decide) ?_
    have e0 : (aOf 0 F w) = (aOf 0 FF w) := aOf_c he hok (by decide)
    have e1 : (aOf 0 F w) = (0, F.2 2 (0 * 12 + wi w)) := by unfold aOf; rw [if_pos hc1]
    exact ⟨rfl, by rw [← e0, e1]; exact ansR_0.symm, ⟨⟨_, _, _, _, hR, hF, hF2, hP, hru, he, hok⟩, (xx_same.rf (b := b + 16) (e := b + 46))⟩⟩
set_option maxHeartbeats 1000000 in
theorem c_X6_pointsOf (hst : l.stackTraces = false) (hX : xx_w b (layX b) A) (hG : gI b ru cr nw nb r FF A) (w : Int32) : xx_C G l yX6_pointsOf mX6_pointsOf 7 111 1 6 [.ref b, .int w] A n (xQ (exA eIO) (aOf 1 FF w) n (fun A' => gI b ru cr nw nb r FF A' ∧ xx_same (b + 16) (b + 46) A A')) := by
  obtain ⟨R, F, F2, PS, hR, hF, hF2, hP, hru, he, hok⟩ := hG
  have hn : F.1 0 = nI nw := hok.1.1
  have h12 := hok.1.2
  have hb : F.1 5 = nI nb := hok.2.1.1
  have h6 := hok.2.1.2
  refine J_C hst (by decide +kernel) rfl rfl rfl (Nat.le_of_ble_eq_true rfl) ?_
  show xx_J _ _ _ _ _ _ _ _ 0 [(0, _), (1, _)] [] _ _ _ _
  refine J_aload_n dX6_pointsOf_0 rfl rfl ?_
  refine J_iload_n dX6_pointsOf_1 rfl rfl ?_
  refine J_callV (As := [_]) dX6_pointsOf_2 ml_X6_109 cal_X6_needWrestler im_X6_needWrestler se_X6_needWrestler (hX.at 0 rfl) rfl rfl rfl (Nat.le_of_ble_eq_true rfl) ⟨by decide, by decide⟩ ⟨by decide, by decide⟩ (c_X6_needWrestler hst hX hF w) (fun E1 A1 n1 _ hQ1 => ?_) (fun v1 A1 n1 _ hQ1 => ?_)
  · obtain ⟨en1, eA1, eE1, hc1⟩ := nQ_x hQ1
    subst en1; subst eA1; subst eE1
    refine JX_out rfl (by decide) (by decide) ?_
    have e0 : (aOf 1 F w) = (aOf 1 FF w) := aOf_c he hok (by decide)
    have e1 : (aOf 1 F w) = (1, 0) := by unfold aOf; rw [if_neg hc1]
    exact ⟨rfl, by rw [← e0, e1]; exact (ansR_k (ex := exA eIO) (c := 1) (by decide)).symm, ⟨⟨_, _, _, _, hR, hF, hF2, hP, hru, he, hok⟩, (xx_same.rf (b := b + 16) (e := b + 46))⟩⟩
  · obtain ⟨en1, eA1, eE1, hc1⟩ := nQ_v hQ1
    subst en1; subst eA1; subst eE1
    obtain ⟨ex1, ei1⟩ := hc1.i hn h12
    refine J_aload_n dX6_pointsOf_5 rfl rfl ?_
    refine J_getf dX6_pointsOf_6 fl_X6_31 (hX.at 0 rfl) rfl ?_
    refine J_iconst (v := 1) dX6_pointsOf_9 (by decide) ?_
    refine J_iload_n dX6_pointsOf_10 rfl rfl ?_
    refine J_callVr (As := [_, _]) dX6_pointsOf_11 ml_X6_112 cal_X0_of im_X0_of se_X0_of (hF.at 0 rfl) rfl rfl rfl (Nat.le_of_ble_eq_true rfl) ⟨by decide, by decide⟩ ⟨by decide, by decide⟩ (c_X0_of hst hF hn h12 (q := 1) rfl (by decide) ex1 ei1) ?_
    refine J_ireturn dX6_pointsOf_14 rfl rfl (by decide) (by decide) ?_
    have e0 : (aOf 1 F w) = (aOf 1 FF w) := aOf_c he hok (by decide)
    have e1 : (aOf 1 F w) = (0, F.2 2 (1 * 12 + wi w)) := by unfold aOf; rw [if_pos hc1]
    exact ⟨rfl, by rw [← e0, e1]; exact ansR_0.symm, ⟨⟨_, _, _, _, hR, hF, hF2, hP, hru, he, hok⟩, (xx_same.rf (b := b + 16) (e := b + 46))⟩⟩
set_option maxHeartbeats 1000000 in
theorem c_X6_winsOf (hst : l.stackTraces = false) (hX : xx_w b (layX b) A) (hG : gI b ru cr nw nb r FF A) (w : Int32) : xx_C G l yX6_winsOf mX6_winsOf 7 111 1 6 [.ref b, .int w] A n (xQ (exA eIO) (aOf 2 FF w) n (fun A' => gI b ru cr nw nb r FF A' ∧ xx_same (b + 16) (b + 46) A A')) := by
  obtain ⟨R, F, F2, PS, hR, hF, hF2, hP, hru, he, hok⟩ := hG
  have hn : F.1 0 = nI nw := hok.1.1
  have h12 := hok.1.2
  have hb : F.1 5 = nI nb := hok.2.1.1
  have h6 := hok.2.1.2
  refine J_C hst (by decide +kernel) rfl rfl rfl (Nat.le_of_ble_eq_true rfl) ?_
  show xx_J _ _ _ _ _ _ _ _ 0 [(0, _), (1, _)] [] _ _ _ _
  refine J_aload_n dX6_winsOf_0 rfl rfl ?_
  refine J_iload_n dX6_winsOf_1 rfl rfl ?_
  refine J_callV (As := [_]) dX6_winsOf_2 ml_X6_109 cal_X6_needWrestler im_X6_needWrestler se_X6_needWrestler (hX.at 0 rfl) rfl rfl rfl (Nat.le_of_ble_eq_true rfl) ⟨by decide, by decide⟩ ⟨by decide, by decide⟩ (c_X6_needWrestler hst hX hF w) (fun E1 A1 n1 _ hQ1 => ?_) (fun v1 A1 n1 _ hQ1 => ?_)
  · obtain ⟨en1, eA1, eE1, hc1⟩ := nQ_x hQ1
    subst en1; subst eA1; subst eE1
    refine JX_out rfl (by decide) (by decide) ?_
    have e0 : (aOf 2 F w) = (aOf 2 FF w) := aOf_c he hok (by decide)
    have e1 : (aOf 2 F w) = (1, 0) := by unfold aOf; rw [if_neg hc1]
    exact ⟨rfl, by rw [← e0, e1]; exact (ansR_k (ex := exA eIO) (c := 1) (by decide)).symm, ⟨⟨_, _, _, _, hR, hF, hF2, hP, hru, he, hok⟩, (xx_same.rf (b := b + 16) (e := b + 46))⟩⟩
  · obtain ⟨en1, eA1, eE1, hc1⟩ := nQ_v hQ1
    subst en1; subst eA1; subst eE1
    obtain ⟨ex1, ei1⟩ := hc1.i hn h12
    refine J_aload_n dX6_winsOf_5 rfl rfl ?_
    refine J_getf dX6_winsOf_6 fl_X6_31 (hX.at 0 rfl) rfl ?_
    refine J_iconst (v := 2) dX6_winsOf_9 (by decide) ?_
    refine J_iload_n dX6_winsOf_10 rfl rfl ?_
    refine J_callVr (As := [_, _]) dX6_winsOf_11 ml_X6_112 cal_X0_of im_X0_of se_X0_of (hF.at 0 rfl) rfl rfl rfl (Nat.le_of_ble_eq_true rfl) ⟨by decide, by decide⟩ ⟨by decide, by decide⟩ (c_X0_of hst hF hn h12 (q := 2) rfl (by decide) ex1 ei1) ?_
    refine J_ireturn dX6_winsOf_14 rfl rfl (by decide) (by decide) ?_
    have e0 : (aOf 2 F w) = (aOf 2 FF w) := aOf_c he hok (by decide)
    have e1 : (aOf 2 F w) = (0, F.2 2 (2 * 12 + wi w)) := by unfold aOf; rw [if_pos hc1]
    exact ⟨rfl, by rw [← e0, e1]; exact ansR_0.symm, ⟨⟨_, _, _, _, hR, hF, hF2, hP, hru, he, hok⟩, (xx_same.rf (b := b + 16) (e := b + 46))⟩⟩
set_option maxHeartbeats 1000000 in
theorem c_X6_drawsOf (hst : l.stackTraces = false) (hX : xx_w b (layX b) A) (hG : gI b ru cr nw nb r FF A) (w : Int32) : xx_C G l yX6_drawsOf mX6_drawsOf 7 111 1 6 [.ref b, .int w] A n (xQ (exA eIO) (aOf 3 FF w) n (fun A' => gI b ru cr nw nb r FF A' ∧ xx_same (b + 16) (b + 46) A A')) := by
  obtain ⟨R, F, F2, PS, hR, hF, hF2, hP, hru, he, hok⟩ := hG
  have hn : F.1 0 = nI nw := hok.1.1
  have h12 := hok.1.2
  have hb : F.1 5 = nI nb := hok.2.1.1
  have h6 := hok.2.1.2
  refine J_C hst (by decide +kernel) rfl rfl rfl (Nat.le_of_ble_eq_true rfl) ?_
  show xx_J _ _ _ _ _ _ _ _ 0 [(0, _), (1, _)] [] _ _ _ _
  refine J_aload_n dX6_drawsOf_0 rfl rfl ?_
  refine J_iload_n dX6_drawsOf_1 rfl rfl ?_
  refine J_callV (As := [_]) dX6_drawsOf_2 ml_X6_109 cal_X6_needWrestler im_X6_needWrestler se_X6_needWrestler (hX.at 0 rfl) rfl rfl rfl (Nat.le_of_ble_eq_true rfl) ⟨by decide, by decide⟩ ⟨by decide, by decide⟩ (c_X6_needWrestler hst hX hF w) (fun E1 A1 n1 _ hQ1 => ?_) (fun v1 A1 n1 _ hQ1 => ?_)
  · obtain ⟨en1, eA1, eE1, hc1⟩ := nQ_x hQ1
    subst en1; subst eA1; subst eE1
    refine JX_out rfl (by decide) (by decide) ?_
    have e0 : (aOf 3 F w) = (aOf 3 FF w) := aOf_c he hok (by decide)
    have e1 : (aOf 3 F w) = (1, 0) := by unfold aOf; rw [if_neg hc1]
    exact ⟨rfl, by rw [← e0, e1]; exact (ansR_k (ex := exA eIO) (c := 1) (by decide)).symm, ⟨⟨_, _, _, _, hR, hF, hF2, hP, hru, he, hok⟩, (xx_same.rf (b := b + 16) (e := b + 46))⟩⟩
  · obtain ⟨en1, eA1, eE1, hc1⟩ := nQ_v hQ1
    subst en1; subst eA1; subst eE1
    obtain ⟨ex1, ei1⟩ := hc1.i hn h12
    refine J_aload_n dX6_drawsOf_5 rfl rfl ?_
    refine J_getf dX6_drawsOf_6 fl_X6_31 (hX.at 0 rfl) rfl ?_
    refine J_iconst (v := 3) dX6_drawsOf_9 (by decide) ?_
    refine J_iload_n dX6_drawsOf_10 rfl rfl ?_
    refine J_callVr (As := [_, _]) dX6_drawsOf_11 ml_X6_112 cal_X0_of im_X0_of se_X0_of (hF.at 0 rfl) rfl rfl rfl (Nat.le_of_ble_eq_true rfl) ⟨by decide, by decide⟩ ⟨by decide, by decide⟩ (c_X0_of hst hF hn h12 (q := 3) rfl (by decide) ex1 ei1) ?_
    refine J_ireturn dX6_drawsOf_14 rfl rfl (by decide) (by decide) ?_
    have e0 : (aOf 3 F w) = (aOf 3 FF w) := aOf_c he hok (by decide)
    have e1 : (aOf 3 F w) = (0, F.2 2 (3 * 12 + wi w)) := by unfold aOf; rw [if_pos hc1]
    exact ⟨rfl, by rw [← e0, e1]; exact ansR_0.symm, ⟨⟨_, _, _, _, hR, hF, hF2, hP, hru, he, hok⟩, (xx_same.rf (b := b + 16) (e := b + 46))⟩⟩
set_option maxHeartbeats 1000000 in
theorem c_X6_lossesOf (hst : l.stackTraces = false) (hX : xx_w b (layX b) A) (hG : gI b ru cr nw nb r FF A) (w : Int32) : xx_C G l yX6_lossesOf mX6_lossesOf 7 111 1 6 [.ref b, .int w] A n (xQ (exA eIO) (aOf 4 FF w) n (fun A' => gI b ru cr nw nb r FF A' ∧ xx_same (b + 16) (b + 46) A A')) := by
  obtain ⟨R, F, F2, PS, hR, hF, hF2, hP, hru, he, hok⟩ := hG
  have hn : F.1 0 = nI nw := hok.1.1
  have h12 := hok.1.2
  have hb : F.1 5 = nI nb := hok.2.1.1
  have h6 := hok.2.1.2
  refine J_C hst (by decide +kernel) rfl rfl rfl (Nat.le_of_ble_eq_true rfl) ?_
  show xx_J _ _ _ _ _ _ _ _ 0 [(0, _), (1, _)] [] _ _ _ _
  refine J_aload_n dX6_lossesOf_0 rfl rfl ?_
  refine J_iload_n dX6_lossesOf_1 rfl rfl ?_
  refine J_callV (As := [_]) dX6_lossesOf_2 ml_X6_109 cal_X6_needWrestler im_X6_needWrestler se_X6_needWrestler (hX.at 0 rfl) rfl rfl rfl (Nat.le_of_ble_eq_true rfl) ⟨by decide, by decide⟩ ⟨by decide, by decide⟩ (c_X6_needWrestler hst hX hF w) (fun E1 A1 n1 _ hQ1 => ?_) (fun v1 A1 n1 _ hQ1 => ?_)
  · obtain ⟨en1, eA1, eE1, hc1⟩ := nQ_x hQ1
    subst en1; subst eA1; subst eE1
    refine JX_out rfl (by decide) (by decide) ?_
    have e0 : (aOf 4 F w) = (aOf 4 FF w) := aOf_c he hok (by decide)
    have e1 : (aOf 4 F w) = (1, 0) := by unfold aOf; rw [if_neg hc1]
    exact ⟨rfl, by rw [← e0, e1]; exact (ansR_k (ex := exA eIO) (c := 1) (by decide)).symm, ⟨⟨_, _, _, _, hR, hF, hF2, hP, hru, he, hok⟩, (xx_same.rf (b := b + 16) (e := b + 46))⟩⟩
  · obtain ⟨en1, eA1, eE1, hc1⟩ := nQ_v hQ1
    subst en1; subst eA1; subst eE1
    obtain ⟨ex1, ei1⟩ := hc1.i hn h12
    refine J_aload_n dX6_lossesOf_5 rfl rfl ?_
    refine J_getf dX6_lossesOf_6 fl_X6_31 (hX.at 0 rfl) rfl ?_
    refine J_iconst (v := 4) dX6_lossesOf_9 (by decide) ?_
    refine J_iload_n dX6_lossesOf_10 rfl rfl ?_
    refine J_callVr (As := [_, _]) dX6_lossesOf_11 ml_X6_112 cal_X0_of im_X0_of se_X0_of (hF.at 0 rfl) rfl rfl rfl (Nat.le_of_ble_eq_true rfl) ⟨by decide, by decide⟩ ⟨by decide, by decide⟩ (c_X0_of hst hF hn h12 (q := 4) rfl (by decide) ex1 ei1) ?_
    refine J_ireturn dX6_lossesOf_14 rfl rfl (by decide) (by decide) ?_
    have e0 : (aOf 4 F w) = (aOf 4 FF w) := aOf_c he hok (by decide)
    have e1 : (aOf 4 F w) = (0, F.2 2 (4 * 12 + wi w)) := by unfold aOf; rw [if_pos hc1]
    exact ⟨rfl, by rw [← e0, e1]; exact ansR_0.symm, ⟨⟨_, _, _, _, hR, hF, hF2, hP, hru, he, hok⟩, (xx_same.rf (b := b + 16) (e := b + 46))⟩⟩
set_option maxHeartbeats 1000000 in
theorem c_X6_restsOf (hst : l.stackTraces = false) (hX : xx_w b (layX b) A) (hG : gI b ru cr nw nb r FF A) (w : Int32) : xx_C G l yX6_restsOf mX6_restsOf 7 111 1 6 [.ref b, .int w] A n (xQ (exA eIO) (aOf 5 FF w) n (fun A' => gI b ru cr nw nb r FF A' ∧ xx_same (b + 16) (b + 46) A A')) := by
  obtain ⟨R, F, F2, PS, hR, hF, hF2, hP, hru, he, hok⟩ := hG
  have hn : F.1 0 = nI nw := hok.1.1
  have h12 := hok.1.2
  have hb : F.1 5 = nI nb := hok.2.1.1
  have h6 := hok.2.1.2
  refine J_C hst (by decide +kernel) rfl rfl rfl (Nat.le_of_ble_eq_true rfl) ?_
  show xx_J _ _ _ _ _ _ _ _ 0 [(0, _), (1, _)] [] _ _ _ _
  refine J_aload_n dX6_restsOf_0 rfl rfl ?_
  refine J_iload_n dX6_restsOf_1 rfl rfl ?_
  refine J_callV (As := [_]) dX6_restsOf_2 ml_X6_109 cal_X6_needWrestler im_X6_needWrestler se_X6_needWrestler (hX.at 0 rfl) rfl rfl rfl (Nat.le_of_ble_eq_true rfl) ⟨by decide, by decide⟩ ⟨by decide, by decide⟩ (c_X6_needWrestler hst hX hF w) (fun E1 A1 n1 _ hQ1 => ?_) (fun v1 A1 n1 _ hQ1 => ?_)
  · obtain ⟨en1, eA1, eE1, hc1⟩ := nQ_x hQ1
    subst en1; subst eA1; subst eE1
    refine JX_out rfl (by decide) (by decide) ?_
    have e0 : (aOf 5 F w) = (aOf 5 FF w) := aOf_c he hok (by decide)
    have e1 : (aOf 5 F w) = (1, 0) := by unfold aOf; rw [if_neg hc1]
    exact ⟨rfl, by rw [← e0, e1]; exact (ansR_k (ex := exA eIO) (c := 1) (by decide)).symm, ⟨⟨_, _, _, _, hR, hF, hF2, hP, hru, he, hok⟩, (xx_same.rf (b := b + 16) (e := b + 46))⟩⟩
  · obtain ⟨en1, eA1, eE1, hc1⟩ := nQ_v hQ1
    subst en1; subst eA1; subst eE1
    obtain ⟨ex1, ei1⟩ := hc1.i hn h12
    refine J_aload_n dX6_restsOf_5 rfl rfl ?_
    refine J_getf dX6_restsOf_6 fl_X6_31 (hX.at 0 rfl) rfl ?_
    refine J_iconst (v := 5) dX6_restsOf_9 (by decide) ?_
    refine J_iload_n dX6_restsOf_10 rfl rfl ?_
    refine J_callVr (As := [_, _]) dX6_restsOf_11 ml_X6_112 cal_X0_of im_X0_of se_X0_of (hF.at 0 rfl) rfl rfl rfl (Nat.le_of_ble_eq_true rfl) ⟨by decide, by decide⟩ ⟨by decide, by decide⟩ (c_X0_of hst hF hn h12 (q := 5) rfl (by decide) ex1 ei1) ?_
    refine J_ireturn dX6_restsOf_14 rfl rfl (by decide) (by decide) ?_
    have e0 : (aOf 5 F w) = (aOf 5 FF w) := aOf_c he hok (by decide)
    have e1 : (aOf 5 F w) = (0, F.2 2 (5 * 12 + wi w)) := by unfold aOf; rw [if_pos hc1]
    exact ⟨rfl, by rw [← e0, e1]; exact ansR_0.symm, ⟨⟨_, _, _, _, hR, hF, hF2, hP, hru, he, hok⟩, (xx_same.rf (b := b + 16) (e := b + 46))⟩⟩
set_option maxHeartbeats 1000000 in
theorem c_X6_beltsOf (hst : l.stackTraces = false) (hX : xx_w b (layX b) A) (hG : gI b ru cr nw nb r FF A) (w : Int32) : xx_C G l yX6_beltsOf mX6_beltsOf 7 111 1 6 [.ref b, .int w] A n (xQ (exA eIO) (aOf 6 FF w) n (fun A' => gI b ru cr nw nb r FF A' ∧ xx_same (b + 16) (b + 46) A A')) := by
  obtain ⟨R, F, F2, PS, hR, hF, hF2, hP, hru, he, hok⟩ := hG
  have hn : F.1 0 = nI nw := hok.1.1
  have h12 := hok.1.2
  have hb : F.1 5 = nI nb := hok.2.1.1
  have h6 := hok.2.1.2
  refine J_C hst (by decide +kernel) rfl rfl rfl (Nat.le_of_ble_eq_true rfl) ?_
  show xx_J _ _ _ _ _ _ _ _ 0 [(0, _), (1, _)] [] _ _ _ _
  refine J_aload_n dX6_beltsOf_0 rfl rfl ?_
  refine J_iload_n dX6_beltsOf_1 rfl rfl ?_
  refine J_callV (As := [_]) dX6_beltsOf_2 ml_X6_109 cal_X6_needWrestler im_X6_needWrestler se_X6_needWrestler (hX.at 0 rfl) rfl rfl rfl (Nat.le_of_ble_eq_true rfl) ⟨by decide, by decide⟩ ⟨by decide, by decide⟩ (c_X6_needWrestler hst hX hF w) (fun E1 A1 n1 _ hQ1 => ?_) (fun v1 A1 n1 _ hQ1 => ?_)
  · obtain ⟨en1, eA1, eE1, hc1⟩ := nQ_x hQ1
    subst en1; subst eA1; subst eE1
    refine JX_out rfl (by decide) (by decide) ?_
    have e0 : (aOf 6 F w) = (aOf 6 FF w) := aOf_c he hok (by decide)
    have e1 : (aOf 6 F w) = (1, 0) := by unfold aOf; rw [if_neg hc1]
    exact ⟨rfl, by rw [← e0, e1]; exact (ansR_k (ex := exA eIO) (c := 1) (by decide)).symm, ⟨⟨_, _, _, _, hR, hF, hF2, hP, hru, he, hok⟩, (xx_same.rf (b := b + 16) (e := b + 46))⟩⟩
  · obtain ⟨en1, eA1, eE1, hc1⟩ := nQ_v hQ1
    subst en1; subst eA1; subst eE1
    obtain ⟨ex1, ei1⟩ := hc1.i hn h12
    refine J_aload_n dX6_beltsOf_5 rfl rfl ?_
    refine J_getf dX6_beltsOf_6 fl_X6_31 (hX.at 0 rfl) rfl ?_
    refine J_bipush (v := 6) dX6_beltsOf_9 (by decide) ?_
    refine J_iload_n dX6_beltsOf_11 rfl rfl ?_
    refine J_callVr (As := [_, _]) dX6_beltsOf_12 ml_X6_112 cal_X0_of im_X0_of se_X0_of (hF.at 0 rfl) rfl rfl rfl (Nat.le_of_ble_eq_true rfl) ⟨by decide, by decide⟩ ⟨by decide, by decide⟩ (c_X0_of hst hF hn h12 (q := 6) rfl (by decide) ex1 ei1) ?_
    refine J_ireturn dX6_beltsOf_15 rfl rfl (by decide) (by decide) ?_
    have e0 : (aOf 6 F w) = (aOf 6 FF w) := aOf_c he hok (by decide)
    have e1 : (aOf 6 F w) = (0, F.2 2 (6 * 12 + wi w)) := by unfold aOf; rw [if_pos hc1]
    exact ⟨rfl, by rw [← e0, e1]; exact ansR_0.symm, ⟨⟨_, _, _, _, hR, hF, hF2, hP, hru, he, hok⟩, (xx_same.rf (b := b + 16) (e := b + 46))⟩⟩
set_option maxHeartbeats 1000000 in
theorem c_X6_floatsOf (hst : l.stackTraces = false) (hX : xx_w b (layX b) A) (hG : gI b ru cr nw nb r FF A) (w : Int32) : xx_C G l yX6_floatsOf mX6_floatsOf 7 111 1 6 [.ref b, .int w] A n (xQ (exA eIO) (aOf 7 FF w) n (fun A' => gI b ru cr nw nb r FF A' ∧ xx_same (b + 16) (b + 46) A A')) := by
  obtain ⟨R, F, F2, PS, hR, hF, hF2, hP, hru, he, hok⟩ := hG
  have hn : F.1 0 = nI nw := hok.1.1
  have h12 := hok.1.2
  have hb : F.1 5 = nI nb := hok.2.1.1
  have h6 := hok.2.1.2
  refine J_C hst (by decide +kernel) rfl rfl rfl (Nat.le_of_ble_eq_true rfl) ?_
  show xx_J _ _ _ _ _ _ _ _ 0 [(0, _), (1, _)] [] _ _ _ _
  refine J_aload_n dX6_floatsOf_0 rfl rfl ?_
  refine J_iload_n dX6_floatsOf_1 rfl rfl ?_
  refine J_callV (As := [_]) dX6_floatsOf_2 ml_X6_109 cal_X6_needWrestler im_X6_needWrestler se_X6_needWrestler (hX.at 0 rfl) rfl rfl rfl (Nat.le_of_ble_eq_true rfl) ⟨by decide, by decide⟩ ⟨by decide, by decide⟩ (c_X6_needWrestler hst hX hF w) (fun E1 A1 n1 _ hQ1 => ?_) (fun v1 A1 n1 _ hQ1 => ?_)
  · obtain ⟨en1, eA1, eE1, hc1⟩ := nQ_x hQ1
    subst en1; subst eA1; subst eE1
    refine JX_out rfl (by decide) (by decide) ?_
    have e0 : (aOf 7 F w) = (aOf 7 FF w) := aOf_c he hok (by decide)
    have e1 : (aOf 7 F w) = (1, 0) := by unfold aOf; rw [if_neg hc1]
    exact ⟨rfl, by rw [← e0, e1]; exact (ansR_k (ex := exA eIO) (c := 1) (by decide)).symm, ⟨⟨_, _, _, _, hR, hF, hF2, hP, hru, he, hok⟩, (xx_same.rf (b := b + 16) (e := b + 46))⟩⟩
  · obtain ⟨en1, eA1, eE1, hc1⟩ := nQ_v hQ1
    subst en1; subst eA1; subst eE1
    obtain ⟨ex1, ei1⟩ := hc1.i hn h12
    refine J_aload_n dX6_floatsOf_5 rfl rfl ?_
    refine J_getf dX6_floatsOf_6 fl_X6_31 (hX.at 0 rfl) rfl ?_
    refine J_bipush (v := 7) dX6_floatsOf_9 (by decide) ?_
    refine J_iload_n dX6_floatsOf_11 rfl rfl ?_
    refine J_callVr (As := [_, _]) dX6_floatsOf_12 ml_X6_112 cal_X0_of im_X0_of se_X0_of (hF.at 0 rfl) rfl rfl rfl (Nat.le_of_ble_eq_true rfl) ⟨by decide, by decide⟩ ⟨by decide, by decide⟩ (c_X0_of hst hF hn h12 (q := 7) rfl (by decide) ex1 ei1) ?_
    refine J_ireturn dX6_floatsOf_15 rfl rfl (by decide) (by decide) ?_
    have e0 : (aOf 7 F w) = (aOf 7 FF w) := aOf_c he hok (by decide)
    have e1 : (aOf 7 F w) = (0, F.2 2 (7 * 12 + wi w)) := by unfold aOf; rw [if_pos hc1]
    exact ⟨rfl, by rw [← e0, e1]; exact ansR_0.symm, ⟨⟨_, _, _, _, hR, hF, hF2, hP, hru, he, hok⟩, (xx_same.rf (b := b + 16) (e := b + 46))⟩⟩
set_option maxHeartbeats 1000000 in
theorem c_X6_pointsOfMet (hst : l.stackTraces = false) (hX : xx_w b (layX b) A) (hG : gI b ru cr nw nb r FF A) (w : Int32) : xx_C G l yX6_pointsOfMet mX6_pointsOfMet 7 111 1 6 [.ref b, .int w] A n (xQ (exA eIO) (aRpt nw FF w) n (fun A' => gI b ru cr nw nb r FF A' ∧ xx_same (b + 16) (b + 46) A A')) := by
  obtain ⟨R, F, F2, PS, hR, hF, hF2, hP, hru, he, hok⟩ := hG
  have hn : F.1 0 = nI nw := hok.1.1
  have h12 := hok.1.2
  have hb : F.1 5 = nI nb := hok.2.1.1
  have h6 := hok.2.1.2
  refine J_C hst (by decide +kernel) rfl rfl rfl (Nat.le_of_ble_eq_true rfl) ?_
  show xx_J _ _ _ _ _ _ _ _ 0 [(0, _), (1, _)] [] _ _ _ _
  refine J_aload_n dX6_pointsOfMet_0 rfl rfl ?_
  refine J_iload_n dX6_pointsOfMet_1 rfl rfl ?_
  refine J_callV (As := [_]) dX6_pointsOfMet_2 ml_X6_109 cal_X6_needWrestler im_X6_needWrestler se_X6_needWrestler (hX.at 0 rfl) rfl rfl rfl (Nat.le_of_ble_eq_true rfl) ⟨by decide, by decide⟩ ⟨by decide, by decide⟩ (c_X6_needWrestler hst hX hF w) (fun E1 A1 n1 _ hQ1 => ?_) (fun v1 A1 n1 _ hQ1 => ?_)
  · obtain ⟨en1, eA1, eE1, hc1⟩ := nQ_x hQ1
    subst en1; subst eA1; subst eE1
    refine JX_out rfl (by decide) (by decide) ?_
    have e0 : (aRpt nw F w) = (aRpt nw FF w) := aRpt_c he hok
    have e1 : (aRpt nw F w) = (1, 0) := by unfold aRpt; rw [if_neg hc1]
    exact ⟨rfl, by rw [← e0, e1]; exact (ansR_k (ex := exA eIO) (c := 1) (by decide)).symm, ⟨⟨_, _, _, _, hR, hF, hF2, hP, hru, he, hok⟩, (xx_same.rf (b := b + 16) (e := b + 46))⟩⟩
  · obtain ⟨en1, eA1, eE1, hc1⟩ := nQ_v hQ1
    subst en1; subst eA1; subst eE1
    obtain ⟨ex1, ei1⟩ := hc1.i hn h12
    refine J_aload_n dX6_pointsOfMet_5 rfl rfl ?_
    refine J_getf dX6_pointsOfMet_6 fl_X6_31 (hX.at 0 rfl) rfl ?_
    refine J_iload_n dX6_pointsOfMet_9 rfl rfl ?_
    refine J_callVr (As := [_]) dX6_pointsOfMet_10 ml_X6_116 cal_X0_pointsOfRivals im_X0_pointsOfRivals se_X0_pointsOfRivals (hF.at 0 rfl) rfl rfl rfl (Nat.le_of_ble_eq_true rfl) ⟨by decide, by decide⟩ ⟨by decide, by decide⟩ (c_X0_pointsOfRivals hst hF hn h12 ex1 ei1) ?_
    refine J_ireturn dX6_pointsOfMet_13 rfl rfl (by decide) (by decide) ?_
    have e0 : (aRpt nw F w) = (aRpt nw FF w) := aRpt_c he hok
    have e1 : (aRpt nw F w) = (0, rpts F nw (wi w)) := by unfold aRpt; rw [if_pos hc1]
    exact ⟨rfl, by rw [← e0, e1]; exact ansR_0.symm, ⟨⟨_, _, _, _, hR, hF, hF2, hP, hru, he, hok⟩, (xx_same.rf (b := b + 16) (e := b + 46))⟩⟩
theorem plc_rk {R : Nat → Nat → Bool} (hR : sto R) {o : Nat → Int32} {ls : List Nat} (h : ordOf R nw o ls) (h12 : nw ≤ 12) {i : Nat} (hi : i < nw) : plcAt o (nI i) nw 0 = rkN R nw i := by
  have hs : srt R nw ls := ⟨h.1, h.2.1⟩
  obtain ⟨p, hp, hpi⟩ := hs.ex hi
  have key : ∀ d q, q + d = nw → q ≤ p → plcAt o (nI i) d q = p := by
    intro d
    induction d with
    | zero => intro q h1 h2; omega
    | succ d ih =>
      intro q h1 h2
      show (if o q = nI i then q else plcAt o (nI i) d (q + 1)) = p
      by_cases c : q = p
      · subst c
        rw [if_pos (by rw [h.2.2 q (by omega), hpi])]
      · rw [if_neg ?_]
        · exact ih (q + 1) (by omega) (by omega)
        · intro z
          rw [h.2.2 q (by omega)] at z
          have hq := hs.lt (p := q) (by omega)
          have e : ls.getD q 0 = i := by
            have z2 : (nI (ls.getD q 0)).toInt = (nI i).toInt := by rw [z]
            rw [i_n (by omega), i_n (by omega)] at z2
            omega
          have r1 := hs.rank hR (p := q) (by omega)
          have r2 := hs.rank hR hp
          rw [e] at r1
          rw [hpi] at r2
          omega
  rw [key nw 0 (by omega) (Nat.zero_le p)]
  have := hs.rank hR hp
  rw [hpi] at this
  exact this.symm
set_option maxHeartbeats 1000000 in
theorem c_X6_rankOf (hst : l.stackTraces = false) (hX : xx_w b (layX b) A) (hG : gI b ru cr nw nb r FF A) (w : Int32) : xx_C G l yX6_rankOf mX6_rankOf 7 111 1 6 [.ref b, .int w] A n (xQ (exA eIO) (aRnk nw FF w) n (fun A' => gI b ru cr nw nb r FF A' ∧ xx_same (b + 16) (b + 46) A A')) := by
  obtain ⟨R, F, F2, PS, hR, hF, hF2, hP, hru, he, hok⟩ := hG
  have hn : F.1 0 = nI nw := hok.1.1
  have h12 := hok.1.2
  have hb : F.1 5 = nI nb := hok.2.1.1
  have h6 := hok.2.1.2
  refine J_C hst (by decide +kernel) rfl rfl rfl (Nat.le_of_ble_eq_true rfl) ?_
  show xx_J _ _ _ _ _ _ _ _ 0 [(0, _), (1, _)] [] _ _ _ _
  refine J_aload_n dX6_rankOf_0 rfl rfl ?_
  refine J_iload_n dX6_rankOf_1 rfl rfl ?_
  refine J_callV (As := [_]) dX6_rankOf_2 ml_X6_109 cal_X6_needWrestler im_X6_needWrestler se_X6_needWrestler (hX.at 0 rfl) rfl rfl rfl (Nat.le_of_ble_eq_true rfl) ⟨by decide, by decide⟩ ⟨by decide, by decide⟩ (c_X6_needWrestler hst hX hF w) (fun E1 A1 n1 _ hQ1 => ?_) (fun v1 A1 n1 _ hQ1 => ?_)
  · obtain ⟨en1, eA1, eE1, hc1⟩ := nQ_x hQ1
    subst en1; subst eA1; subst eE1
    refine JX_out rfl (by decide) (by decide) ?_
    have e0 : (aRnk nw F w) = (aRnk nw FF w) := aRnk_c he hok
    have e1 : (aRnk nw F w) = (1, 0) := by unfold aRnk; rw [if_neg hc1]
    exact ⟨rfl, by rw [← e0, e1]; exact (ansR_k (ex := exA eIO) (c := 1) (by decide)).symm, ⟨⟨_, _, _, _, hR, hF, hF2, hP, hru, he, hok⟩, (xx_same.rf (b := b + 16) (e := b + 46))⟩⟩
  · obtain ⟨en1, eA1, eE1, hc1⟩ := nQ_v hQ1
    subst en1; subst eA1; subst eE1
    obtain ⟨ex1, ei1⟩ := hc1.i hn h12
    refine J_aload_n dX6_rankOf_5 rfl rfl ?_
    refine J_getf dX6_rankOf_6 fl_X6_31 (hX.at 0 rfl) rfl ?_
    refine J_callVw (As := []) dX6_rankOf_9 ml_X6_120 cal_X0_putInOrder im_X0_putInOrder se_X0_putInOrder (hF.at 0 rfl) rfl rfl rfl (Nat.le_of_ble_eq_true rfl) ⟨by decide, by decide⟩ ⟨by decide, by decide⟩ (c_X0_putInOrder hst hF hn h12) (fun A2 hQ2 => ?_)
    obtain ⟨mp2, o2, ls2, wF2, sF2, hor2⟩ := hQ2
    have w2X := hX.s2 sF2 (m := 1) rfl (by omega)
    have w2R2 := hR.s2 sF2 (m := 6) rfl (by omega)
    have w2F2 := hF2.s2 sF2 (m := 9) rfl (by omega)
    have w2P := hP.s2 sF2 (m := 6) rfl (by omega)
    refine J_aload_n dX6_rankOf_12 rfl rfl ?_
    refine J_getf dX6_rankOf_13 fl_X6_31 (w2X.at 0 rfl) rfl ?_
    refine J_iload_n dX6_rankOf_16 rfl rfl ?_
    refine J_callVr (As := [_]) dX6_rankOf_17 ml_X6_123 cal_X0_placeOf im_X0_placeOf se_X0_placeOf (wF2.at 0 rfl) rfl rfl rfl (Nat.le_of_ble_eq_true rfl) ⟨by decide, by decide⟩ ⟨by decide, by decide⟩ (c_X0_placeOf hst wF2 hn h12 _) ?_
    refine J_ireturn dX6_rankOf_20 rfl rfl (by decide) (by decide) ?_
    have e7 := plc_rk (ahd_sto (f_pts F) (rpts F nw) (f_str F)) hor2 h12 ei1
    rw [← ex1] at e7
    have e0 : (aRnk nw F w) = (aRnk nw FF w) := aRnk_c he hok
    have e1 : (aRnk nw F w) = (0, nI (rkN (f_R F nw) nw (wi w))) := by unfold aRnk; rw [if_pos hc1]
    exact ⟨rfl, by rw [← e0, e1]; exact (by rw [ansR_0]; exact congrArg (fun z => Sum.inl (some (Value.int (nI z)))) e7), ⟨⟨_, _, _, _, w2R2, wF2, w2F2, w2P, hru, (eqF.o78.trans he), (eqF.o78.symm.ok hok)⟩, ((xx_same.rf (b := b + 16) (e := b + 46)).trans (sF2.wide (by omega) (by omega)))⟩⟩
set_option maxHeartbeats 1000000 in
theorem c_X6_wrestlerAt (hst : l.stackTraces = false) (hX : xx_w b (layX b) A) (hG : gI b ru cr nw nb r FF A) (w : Int32) : xx_C G l yX6_wrestlerAt mX6_wrestlerAt 6 90 1 6 [.ref b, .int w] A n (xQ (exA eIO) (aAt nw FF w) n (fun A' => gI b ru cr nw nb r FF A' ∧ xx_same (b + 16) (b + 46) A A')) := by
  obtain ⟨R, F, F2, PS, hR, hF, hF2, hP, hru, he, hok⟩ := hG
  have hn : F.1 0 = nI nw := hok.1.1
  have h12 := hok.1.2
  have hb : F.1 5 = nI nb := hok.2.1.1
  have h6 := hok.2.1.2
  refine J_C hst (by decide +kernel) rfl rfl rfl (Nat.le_of_ble_eq_true rfl) ?_
  show xx_J _ _ _ _ _ _ _ _ 0 [(0, _), (1, _)] [] _ _ _ _
  refine J_aload_n dX6_wrestlerAt_0 rfl rfl ?_
  refine J_getf dX6_wrestlerAt_1 fl_X6_31 (hX.at 0 rfl) rfl ?_
  refine J_iload_n dX6_wrestlerAt_4 rfl rfl ?_
  refine J_callVr (As := [_]) dX6_wrestlerAt_5 ml_X6_126 cal_X0_hasWrestler im_X0_hasWrestler se_X0_hasWrestler (hF.at 0 rfl) rfl rfl rfl (Nat.le_of_ble_eq_true rfl) ⟨by decide, by decide⟩ ⟨by decide, by decide⟩ (c_X0_hasWrestler hst hF _) ?_
  refine J_ifb_ne (tgt := 21) dX6_wrestlerAt_8 rfl (fun h8 => ?_) (fun h8 => ?_)
  · have kh8 : (okW F w) := h8
    obtain ⟨ex8, ei8⟩ := kh8.i hn h12
    refine J_aload_n dX6_wrestlerAt_21 rfl rfl ?_
    refine J_getf dX6_wrestlerAt_22 fl_X6_31 (hX.at 0 rfl) rfl ?_
    refine J_callVw (As := []) dX6_wrestlerAt_25 ml_X6_120 cal_X0_putInOrder im_X0_putInOrder se_X0_putInOrder (hF.at 0 rfl) rfl rfl rfl (Nat.le_of_ble_eq_true rfl) ⟨by decide, by decide⟩ ⟨by decide, by decide⟩ (c_X0_putInOrder hst hF hn h12) (fun A1 hQ1 => ?_)
    obtain ⟨mp1, o1, ls1, wF1, sF1, hor1⟩ := hQ1
    have w1X := hX.s2 sF1 (m := 1) rfl (by omega)
    have w1R2 := hR.s2 sF1 (m := 6) rfl (by omega)
    have w1F2 := hF2.s2 sF1 (m := 9) rfl (by omega)
    have w1P := hP.s2 sF1 (m := 6) rfl (by omega)
    refine J_aload_n dX6_wrestlerAt_28 rfl rfl ?_
    refine J_getf dX6_wrestlerAt_29 fl_X6_31 (w1X.at 0 rfl) rfl ?_
    refine J_iload_n dX6_wrestlerAt_32 rfl rfl ?_
    refine J_callVr (As := [_]) dX6_wrestlerAt_33 ml_X6_135 cal_X0_atPlace im_X0_atPlace se_X0_atPlace (wF1.at 0 rfl) rfl rfl rfl (Nat.le_of_ble_eq_true rfl) ⟨by decide, by decide⟩ ⟨by decide, by decide⟩ (c_X0_atPlace hst wF1 hn h12 ex8 ei8) ?_
    refine J_ireturn dX6_wrestlerAt_36 rfl rfl (by decide) (by decide) ?_
    have e7 := lsF_eq (F := F) ⟨hor1.1, hor1.2.1⟩
    have e8 := hor1.2.2 _ ei8
    rw [e7] at e8
    have e0 : (aAt nw F w) = (aAt nw FF w) := aAt_c he
    have e1 : (aAt nw F w) = (0, nI ((lsF F nw).getD (wi w) 0)) := by unfold aAt; rw [if_pos kh8]
    exact ⟨rfl, by rw [← e0, e1]; exact (by rw [ansR_0, ← e8]; rfl), ⟨⟨_, _, _, _, w1R2, wF1, w1F2, w1P, hru, (eqF.o78.trans he), (eqF.o78.symm.ok hok)⟩, ((xx_same.rf (b := b + 16) (e := b + 46)).trans (sF1.wide (by omega) (by omega)))⟩⟩
  · have kh8 : ¬ (okW F w) := h8
    refine J_throw (text := "no such rank") hst dX6_wrestlerAt_11 dX6_wrestlerAt_14 dX6_wrestlerAt_15 dX6_wrestlerAt_17 dX6_wrestlerAt_20 (by decide) cl_X6_130 in_java_lang_IndexOutOfBoundsException th3_X6_134 th4_X6_134 (by decide +kernel) rfl ⟨by decide, by decide⟩ (by decide) (by decide) ?_
    have e0 : (aAt nw F w) = (aAt nw FF w) := aAt_c he
    have e1 : (aAt nw F w) = (1, 0) := by unfold aAt; rw [if_neg kh8]
    exact ⟨rfl, by rw [← e0, e1]; exact (ansR_k (ex := exA eIO) (c := 1) (by decide)).symm, ⟨⟨_, _, _, _, hR, hF, hF2, hP, hru, he, hok⟩, (xx_same.rf (b := b + 16) (e := b + 46))⟩⟩
set_option maxHeartbeats 1000000 in
theorem c_X6_isIn (hst : l.stackTraces = false) (hX : xx_w b (layX b) A) (hG : gI b ru cr nw nb r FF A) (w : Int32) : xx_C G l yX6_isIn mX6_isIn 7 111 1 6 [.ref b, .int w] A n (xQ (exA eIO) (aIn FF w) n (fun A' => gI b ru cr nw nb r FF A' ∧ xx_same (b + 16) (b + 46) A A')) := by
  obtain ⟨R, F, F2, PS, hR, hF, hF2, hP, hru, he, hok⟩ := hG
  have hn : F.1 0 = nI nw := hok.1.1
  have h12 := hok.1.2
  have hb : F.1 5 = nI nb := hok.2.1.1
  have h6 := hok.2.1.2
  refine J_C hst (by decide +kernel) rfl rfl rfl (Nat.le_of_ble_eq_true rfl) ?_
  show xx_J _ _ _ _ _ _ _ _ 0 [(0, _), (1, _)] [] _ _ _ _
  refine J_aload_n dX6_isIn_0 rfl rfl ?_
  refine J_iload_n dX6_isIn_1 rfl rfl ?_
  refine J_callV (As := [_]) dX6_isIn_2 ml_X6_109 cal_X6_needWrestler im_X6_needWrestler se_X6_needWrestler (hX.at 0 rfl) rfl rfl rfl (Nat.le_of_ble_eq_true rfl) ⟨by decide, by decide⟩ ⟨by decide, by decide⟩ (c_X6_needWrestler hst hX hF w) (fun E1 A1 n1 _ hQ1 => ?_) (fun v1 A1 n1 _ hQ1 => ?_)
  · obtain ⟨en1, eA1, eE1, hc1⟩ := nQ_x hQ1
    subst en1; subst eA1; subst eE1
    refine JX_out rfl (by decide) (by decide) ?_
    have e0 : (aIn F w) = (aIn FF w) := aIn_c he hok
    have e1 : (aIn F w) = (1, 0) := by unfold aIn; rw [if_neg hc1]
    exact ⟨rfl, by rw [← e0, e1]; exact (ansR_k (ex := exA eIO) (c := 1) (by decide)).symm, ⟨⟨_, _, _, _, hR, hF, hF2, hP, hru, he, hok⟩, (xx_same.rf (b := b + 16) (e := b + 46))⟩⟩
  · obtain ⟨en1, eA1, eE1, hc1⟩ := nQ_v hQ1
    subst en1; subst eA1; subst eE1
    obtain ⟨ex1, ei1⟩ := hc1.i hn h12
    refine J_aload_n dX6_isIn_5 rfl rfl ?_
    refine J_getf dX6_isIn_6 fl_X6_31 (hX.at 0 rfl) rfl ?_
    refine J_bipush (v := 8) dX6_isIn_9 (by decide) ?_
    refine J_iload_n dX6_isIn_11 rfl rfl ?_
    refine J_callVr (As := [_, _]) dX6_isIn_12 ml_X6_112 cal_X0_of im_X0_of se_X0_of (hF.at 0 rfl) rfl rfl rfl (Nat.le_of_ble_eq_true rfl) ⟨by decide, by decide⟩ ⟨by decide, by decide⟩ (c_X0_of hst hF hn h12 (q := 8) rfl (by decide) ex1 ei1) ?_
    refine J_if_eq (tgt := 22) dX6_isIn_15 rfl (fun h15 => ?_) (fun h15 => ?_)
    · refine J_iconst (v := 0) dX6_isIn_22 (by decide) ?_
      refine J_ireturn dX6_isIn_23 rfl rfl (by decide) (by decide) ?_
      have e0 : (aIn F w) = (aIn FF w) := aIn_c he hok
      have e1 : (aIn F w) = (0, xx_b (¬ F.2 2 (8 * 12 + wi w) = 0)) := by unfold aIn; rw [if_pos hc1]
      rw [xx_bf (fun z => z h15)] at e1
      exact ⟨rfl, by rw [← e0, e1]; exact ansR_0.symm, ⟨⟨_, _, _, _, hR, hF, hF2, hP, hru, he, hok⟩, (xx_same.rf (b := b + 16) (e := b + 46))⟩⟩
    · refine J_iconst (v := 1) dX6_isIn_18 (by decide) ?_
      refine J_goto (tgt := 23) dX6_isIn_19 rfl ?_
      refine J_ireturn dX6_isIn_23 rfl rfl (by decide) (by decide) ?_
      have e0 : (aIn F w) = (aIn FF w) := aIn_c he hok
      have e1 : (aIn F w) = (0, xx_b (¬ F.2 2 (8 * 12 + wi w) = 0)) := by unfold aIn; rw [if_pos hc1]
      rw [xx_bt h15] at e1
      exact ⟨rfl, by rw [← e0, e1]; exact ansR_0.symm, ⟨⟨_, _, _, _, hR, hF, hF2, hP, hru, he, hok⟩, (xx_same.rf (b := b + 16) (e := b + 46))⟩⟩
set_option maxHeartbeats 1000000 in
theorem c_X6_timesMet (hst : l.stackTraces = false) (hX : xx_w b (layX b) A) (hG : gI b ru cr nw nb r FF A) (w v : Int32) : xx_C G l yX6_timesMet mX6_timesMet 7 111 2 12 [.ref b, .int w, .int v] A n (xQ (exA eIO) (aMet FF w v) n (fun A' => gI b ru cr nw nb r FF A' ∧ xx_same (b + 16) (b + 46) A A')) := by
  obtain ⟨R, F, F2, PS, hR, hF, hF2, hP, hru, he, hok⟩ := hG
  have hn : F.1 0 = nI nw := hok.1.1
  have h12 := hok.1.2
  have hb : F.1 5 = nI nb := hok.2.1.1
  have h6 := hok.2.1.2
  refine J_C hst (by decide +kernel) rfl rfl rfl (Nat.le_of_ble_eq_true rfl) ?_
  show xx_J _ _ _ _ _ _ _ _ 0 [(0, _), (1, _), (2, _)] [] _ _ _ _
  refine J_aload_n dX6_timesMet_0 rfl rfl ?_
  refine J_iload_n dX6_timesMet_1 rfl rfl ?_
  refine J_callV (As := [_]) dX6_timesMet_2 ml_X6_109 cal_X6_needWrestler im_X6_needWrestler se_X6_needWrestler (hX.at 0 rfl) rfl rfl rfl (Nat.le_of_ble_eq_true rfl) ⟨by decide, by decide⟩ ⟨by decide, by decide⟩ (c_X6_needWrestler hst hX hF w) (fun E1 A1 n1 _ hQ1 => ?_) (fun v1 A1 n1 _ hQ1 => ?_)
  · obtain ⟨en1, eA1, eE1, hc1⟩ := nQ_x hQ1
    subst en1; subst eA1; subst eE1
    refine JX_out rfl (by decide) (by decide) ?_
    have e0 : (aMet F w v) = (aMet FF w v) := aMet_c he hok
    have e1 : (aMet F w v) = (1, 0) := by unfold aMet; rw [if_neg hc1]
    exact ⟨rfl, by rw [← e0, e1]; exact (ansR_k (ex := exA eIO) (c := 1) (by decide)).symm, ⟨⟨_, _, _, _, hR, hF, hF2, hP, hru, he, hok⟩, (xx_same.rf (b := b + 16) (e := b + 46))⟩⟩
  · obtain ⟨en1, eA1, eE1, hc1⟩ := nQ_v hQ1
    subst en1; subst eA1; subst eE1
    obtain ⟨ex1, ei1⟩ := hc1.i hn h12
    refine J_aload_n dX6_timesMet_5 rfl rfl ?_
    refine J_iload_n dX6_timesMet_6 rfl rfl ?_
    refine J_callV (As := [_]) dX6_timesMet_7 ml_X6_109 cal_X6_needWrestler im_X6_needWrestler se_X6_needWrestler (hX.at 0 rfl) rfl rfl rfl (Nat.le_of_ble_eq_true rfl) ⟨by decide, by decide⟩ ⟨by decide, by decide⟩ (c_X6_needWrestler hst hX hF v) (fun E2 A2 n2 _ hQ2 => ?_) (fun v2 A2 n2 _ hQ2 => ?_)
    · obtain ⟨en2, eA2, eE2, hc2⟩ := nQ_x hQ2
      subst en2; subst eA2; subst eE2
      refine JX_out rfl (by decide) (by decide) ?_
      have e0 : (aMet F w v) = (aMet FF w v) := aMet_c he hok
      have e1 : (aMet F w v) = (1, 0) := by unfold aMet; rw [if_pos hc1, if_neg hc2]
      exact ⟨rfl, by rw [← e0, e1]; exact (ansR_k (ex := exA eIO) (c := 1) (by decide)).symm, ⟨⟨_, _, _, _, hR, hF, hF2, hP, hru, he, hok⟩, (xx_same.rf (b := b + 16) (e := b + 46))⟩⟩
    · obtain ⟨en2, eA2, eE2, hc2⟩ := nQ_v hQ2
      subst en2; subst eA2; subst eE2
      obtain ⟨ex2, ei2⟩ := hc2.i hn h12
      refine J_aload_n dX6_timesMet_10 rfl rfl ?_
      refine J_getf dX6_timesMet_11 fl_X6_31 (hX.at 0 rfl) rfl ?_
      refine J_iload_n dX6_timesMet_14 rfl rfl ?_
      refine J_iload_n dX6_timesMet_15 rfl rfl ?_
      refine J_callVr (As := [_, _]) dX6_timesMet_16 ml_X6_138 cal_X0_meetings im_X0_meetings se_X0_meetings (hF.at 0 rfl) rfl rfl rfl (Nat.le_of_ble_eq_true rfl) ⟨by decide, by decide⟩ ⟨by decide, by decide⟩ (c_X0_meetings hst hF hn h12 ex1 ei1 ex2 ei2) ?_
      refine J_ireturn dX6_timesMet_19 rfl rfl (by decide) (by decide) ?_
      have e0 : (aMet F w v) = (aMet FF w v) := aMet_c he hok
      have e1 : (aMet F w v) = (0, F.2 3 (wi w * 12 + wi v)) := by unfold aMet; rw [if_pos hc1, if_pos hc2]
      exact ⟨rfl, by rw [← e0, e1]; exact ansR_0.symm, ⟨⟨_, _, _, _, hR, hF, hF2, hP, hru, he, hok⟩, (xx_same.rf (b := b + 16) (e := b + 46))⟩⟩
set_option maxHeartbeats 1000000 in
theorem c_X6_redOf (hst : l.stackTraces = false) (hX : xx_w b (layX b) A) (hG : gI b ru cr nw nb r FF A) (w : Int32) : xx_C G l yX6_redOf mX6_redOf 7 111 1 6 [.ref b, .int w] A n (xQ (exA eIO) (aRed FF w) n (fun A' => gI b ru cr nw nb r FF A' ∧ xx_same (b + 16) (b + 46) A A')) := by
  obtain ⟨R, F, F2, PS, hR, hF, hF2, hP, hru, he, hok⟩ := hG
  have hn : F.1 0 = nI nw := hok.1.1
  have h12 := hok.1.2
  have hb : F.1 5 = nI nb := hok.2.1.1
  have h6 := hok.2.1.2
  refine J_C hst (by decide +kernel) rfl rfl rfl (Nat.le_of_ble_eq_true rfl) ?_
  show xx_J _ _ _ _ _ _ _ _ 0 [(0, _), (1, _)] [] _ _ _ _
  refine J_aload_n dX6_redOf_0 rfl rfl ?_
  refine J_iload_n dX6_redOf_1 rfl rfl ?_
  refine J_callV (As := [_]) dX6_redOf_2 ml_X6_141 cal_X6_needBout im_X6_needBout se_X6_needBout (hX.at 0 rfl) rfl rfl rfl (Nat.le_of_ble_eq_true rfl) ⟨by decide, by decide⟩ ⟨by decide, by decide⟩ (c_X6_needBout hst hX hF w) (fun E1 A1 n1 _ hQ1 => ?_) (fun v1 A1 n1 _ hQ1 => ?_)
  · obtain ⟨en1, eA1, eE1, hc1⟩ := nQ_x hQ1
    subst en1; subst eA1; subst eE1
    refine JX_out rfl (by decide) (by decide) ?_
    have e0 : (aRed F w) = (aRed FF w) := aRed_c he hok
    have e1 : (aRed F w) = (1, 0) := by unfold aRed; rw [if_neg hc1]
    exact ⟨rfl, by rw [← e0, e1]; exact (ansR_k (ex := exA eIO) (c := 1) (by decide)).symm, ⟨⟨_, _, _, _, hR, hF, hF2, hP, hru, he, hok⟩, (xx_same.rf (b := b + 16) (e := b + 46))⟩⟩
  · obtain ⟨en1, eA1, eE1, hc1⟩ := nQ_v hQ1
    subst en1; subst eA1; subst eE1
    obtain ⟨ex1, ei1⟩ := hc1.i hb h6
    refine J_aload_n dX6_redOf_5 rfl rfl ?_
    refine J_getf dX6_redOf_6 fl_X6_31 (hX.at 0 rfl) rfl ?_
    refine J_iload_n dX6_redOf_9 rfl rfl ?_
    refine J_callVr (As := [_]) dX6_redOf_10 ml_X6_144 cal_X0_redIn im_X0_redIn se_X0_redIn (hF.at 0 rfl) rfl rfl rfl (Nat.le_of_ble_eq_true rfl) ⟨by decide, by decide⟩ ⟨by decide, by decide⟩ (c_X0_redIn hst hF hb h6 ex1 ei1) ?_
    refine J_ireturn dX6_redOf_13 rfl rfl (by decide) (by decide) ?_
    have e0 : (aRed F w) = (aRed FF w) := aRed_c he hok
    have e1 : (aRed F w) = (0, F.2 4 (wi w)) := by unfold aRed; rw [if_pos hc1]
    exact ⟨rfl, by rw [← e0, e1]; exact ansR_0.symm, ⟨⟨_, _, _, _, hR, hF, hF2, hP, hru, he, hok⟩, (xx_same.rf (b := b + 16) (e := b + 46))⟩⟩
set_option maxHeartbeats 1000000 in
theorem c_X6_blueOf (hst : l.stackTraces = false) (hX : xx_w b (layX b) A) (hG : gI b ru cr nw nb r FF A) (w : Int32) : xx_C G l yX6_blueOf mX6_blueOf 7 111 1 6 [.ref b, .int w] A n (xQ (exA eIO) (aBlu FF w) n (fun A' => gI b ru cr nw nb r FF A' ∧ xx_same (b + 16) (b + 46) A A')) := by
  obtain ⟨R, F, F2, PS, hR, hF, hF2, hP, hru, he, hok⟩ := hG
  have hn : F.1 0 = nI nw := hok.1.1
  have h12 := hok.1.2
  have hb : F.1 5 = nI nb := hok.2.1.1
  have h6 := hok.2.1.2
  refine J_C hst (by decide +kernel) rfl rfl rfl (Nat.le_of_ble_eq_true rfl) ?_
  show xx_J _ _ _ _ _ _ _ _ 0 [(0, _), (1, _)] [] _ _ _ _
  refine J_aload_n dX6_blueOf_0 rfl rfl ?_
  refine J_iload_n dX6_blueOf_1 rfl rfl ?_
  refine J_callV (As := [_]) dX6_blueOf_2 ml_X6_141 cal_X6_needBout im_X6_needBout se_X6_needBout (hX.at 0 rfl) rfl rfl rfl (Nat.le_of_ble_eq_true rfl) ⟨by decide, by decide⟩ ⟨by decide, by decide⟩ (c_X6_needBout hst hX hF w) (fun E1 A1 n1 _ hQ1 => ?_) (fun v1 A1 n1 _ hQ1 => ?_)
  · obtain ⟨en1, eA1, eE1, hc1⟩ := nQ_x hQ1
    subst en1; subst eA1; subst eE1
    refine JX_out rfl (by decide) (by decide) ?_
    have e0 : (aBlu F w) = (aBlu FF w) := aBlu_c he hok
    have e1 : (aBlu F w) = (1, 0) := by unfold aBlu; rw [if_neg hc1]
    exact ⟨rfl, by rw [← e0, e1]; exact (ansR_k (ex := exA eIO) (c := 1) (by decide)).symm, ⟨⟨_, _, _, _, hR, hF, hF2, hP, hru, he, hok⟩, (xx_same.rf (b := b + 16) (e := b + 46))⟩⟩
  · obtain ⟨en1, eA1, eE1, hc1⟩ := nQ_v hQ1
    subst en1; subst eA1; subst eE1
    obtain ⟨ex1, ei1⟩ := hc1.i hb h6
    refine J_aload_n dX6_blueOf_5 rfl rfl ?_
    refine J_getf dX6_blueOf_6 fl_X6_31 (hX.at 0 rfl) rfl ?_
    refine J_iload_n dX6_blueOf_9 rfl rfl ?_
    refine J_callVr (As := [_]) dX6_blueOf_10 ml_X6_147 cal_X0_blueIn im_X0_blueIn se_X0_blueIn (hF.at 0 rfl) rfl rfl rfl (Nat.le_of_ble_eq_true rfl) ⟨by decide, by decide⟩ ⟨by decide, by decide⟩ (c_X0_blueIn hst hF hb h6 ex1 ei1) ?_
    refine J_ireturn dX6_blueOf_13 rfl rfl (by decide) (by decide) ?_
    have e0 : (aBlu F w) = (aBlu FF w) := aBlu_c he hok
    have e1 : (aBlu F w) = (0, F.2 5 (wi w)) := by unfold aBlu; rw [if_pos hc1]
    exact ⟨rfl, by rw [← e0, e1]; exact ansR_0.symm, ⟨⟨_, _, _, _, hR, hF, hF2, hP, hru, he, hok⟩, (xx_same.rf (b := b + 16) (e := b + 46))⟩⟩
set_option maxHeartbeats 1000000 in
theorem c_X6_outcomeOf (hst : l.stackTraces = false) (hX : xx_w b (layX b) A) (hG : gI b ru cr nw nb r FF A) (w : Int32) : xx_C G l yX6_outcomeOf mX6_outcomeOf 7 111 2 12 [.ref b, .int w] A n (xQ (exB eIO eIS) (aOut FF w) n (fun A' => gI b ru cr nw nb r FF A' ∧ xx_same (b + 16) (b + 46) A A')) := by
  obtain ⟨R, F, F2, PS, hR, hF, hF2, hP, hru, he, hok⟩ := hG
  have hn : F.1 0 = nI nw := hok.1.1
  have h12 := hok.1.2
  have hb : F.1 5 = nI nb := hok.2.1.1
  have h6 := hok.2.1.2
  refine J_C hst (by decide +kernel) rfl rfl rfl (Nat.le_of_ble_eq_true rfl) ?_
  show xx_J _ _ _ _ _ _ _ _ 0 [(0, _), (1, _)] [] _ _ _ _
  refine J_aload_n dX6_outcomeOf_0 rfl rfl ?_
  refine J_iload_n dX6_outcomeOf_1 rfl rfl ?_
  refine J_callV (As := [_]) dX6_outcomeOf_2 ml_X6_141 cal_X6_needBout im_X6_needBout se_X6_needBout (hX.at 0 rfl) rfl rfl rfl (Nat.le_of_ble_eq_true rfl) ⟨by decide, by decide⟩ ⟨by decide, by decide⟩ (c_X6_needBout hst hX hF w) (fun E1 A1 n1 _ hQ1 => ?_) (fun v1 A1 n1 _ hQ1 => ?_)
  · obtain ⟨en1, eA1, eE1, hc1⟩ := nQ_x hQ1
    subst en1; subst eA1; subst eE1
    refine JX_out rfl (by decide) (by decide) ?_
    have e0 : (aOut F w) = (aOut FF w) := aOut_c he hok
    have e1 : (aOut F w) = (1, 0) := by unfold aOut; rw [if_neg hc1]
    exact ⟨rfl, by rw [← e0, e1]; exact (ansR_k (ex := exB eIO eIS) (c := 1) (by decide)).symm, ⟨⟨_, _, _, _, hR, hF, hF2, hP, hru, he, hok⟩, (xx_same.rf (b := b + 16) (e := b + 46))⟩⟩
  · obtain ⟨en1, eA1, eE1, hc1⟩ := nQ_v hQ1
    subst en1; subst eA1; subst eE1
    obtain ⟨ex1, ei1⟩ := hc1.i hb h6
    refine J_aload_n dX6_outcomeOf_5 rfl rfl ?_
    refine J_getf dX6_outcomeOf_6 fl_X6_31 (hX.at 0 rfl) rfl ?_
    refine J_iload_n dX6_outcomeOf_9 rfl rfl ?_
    refine J_callVr (As := [_]) dX6_outcomeOf_10 ml_X6_150 cal_X0_outcomeIn im_X0_outcomeIn se_X0_outcomeIn (hF.at 0 rfl) rfl rfl rfl (Nat.le_of_ble_eq_true rfl) ⟨by decide, by decide⟩ ⟨by decide, by decide⟩ (c_X0_outcomeIn hst hF hb h6 ex1 ei1) ?_
    refine J_istore_n (L' := [(2, _), (0, _), (1, _)]) dX6_outcomeOf_13 rfl (by decide) rfl ?_
    refine J_iload_n dX6_outcomeOf_14 rfl rfl ?_
    refine J_iconst (v := -1) dX6_outcomeOf_15 (by decide) ?_
    refine J_icmp_ne (tgt := 29) dX6_outcomeOf_16 rfl (fun h16 => ?_) (fun h16 => ?_)
    · refine J_iload_n dX6_outcomeOf_29 rfl rfl ?_
      refine J_ireturn dX6_outcomeOf_30 rfl rfl (by decide) (by decide) ?_
      have e0 : (aOut F w) = (aOut FF w) := aOut_c he hok
      have e1 : (aOut F w) = (0, F.2 6 (wi w)) := by unfold aOut; rw [if_pos hc1, if_neg (show ¬ F.2 6 (wi w) = -1 from h16)]
      exact ⟨rfl, by rw [← e0, e1]; exact ansR_0.symm, ⟨⟨_, _, _, _, hR, hF, hF2, hP, hru, he, hok⟩, (xx_same.rf (b := b + 16) (e := b + 46))⟩⟩
    · refine J_throw (text := "the bout has no outcome yet") hst dX6_outcomeOf_19 dX6_outcomeOf_22 dX6_outcomeOf_23 dX6_outcomeOf_25 dX6_outcomeOf_28 (by decide) cl_X6_51 in_java_lang_IllegalStateException th3_X6_55 th4_X6_55 (by decide +kernel) rfl ⟨by decide, by decide⟩ (by decide) (by decide) ?_
      have e0 : (aOut F w) = (aOut FF w) := aOut_c he hok
      have e1 : (aOut F w) = (2, 0) := by unfold aOut; rw [if_pos hc1, if_pos (show F.2 6 (wi w) = -1 from h16)]
      exact ⟨rfl, by rw [← e0, e1]; exact (ansR_k (ex := exB eIO eIS) (c := 2) (by decide)).symm, ⟨⟨_, _, _, _, hR, hF, hF2, hP, hru, he, hok⟩, (xx_same.rf (b := b + 16) (e := b + 46))⟩⟩
set_option maxHeartbeats 1000000 in
theorem c_X6_opponentOf (hst : l.stackTraces = false) (hX : xx_w b (layX b) A) (hG : gI b ru cr nw nb r FF A) (w : Int32) : xx_C G l yX6_opponentOf mX6_opponentOf 7 111 2 12 [.ref b, .int w] A n (xQ (exB eIO eIS) (aOpp nb FF w) n (fun A' => gI b ru cr nw nb r FF A' ∧ xx_same (b + 16) (b + 46) A A')) := by
  obtain ⟨R, F, F2, PS, hR, hF, hF2, hP, hru, he, hok⟩ := hG
  have hn : F.1 0 = nI nw := hok.1.1
  have h12 := hok.1.2
  have hb : F.1 5 = nI nb := hok.2.1.1
  have h6 := hok.2.1.2
  refine J_C hst (by decide +kernel) rfl rfl rfl (Nat.le_of_ble_eq_true rfl) ?_
  show xx_J _ _ _ _ _ _ _ _ 0 [(0, _), (1, _)] [] _ _ _ _
  refine J_aload_n dX6_opponentOf_0 rfl rfl ?_
  refine J_iload_n dX6_opponentOf_1 rfl rfl ?_
  refine J_callV (As := [_]) dX6_opponentOf_2 ml_X6_109 cal_X6_needWrestler im_X6_needWrestler se_X6_needWrestler (hX.at 0 rfl) rfl rfl rfl (Nat.le_of_ble_eq_true rfl) ⟨by decide, by decide⟩ ⟨by decide, by decide⟩ (c_X6_needWrestler hst hX hF w) (fun E1 A1 n1 _ hQ1 => ?_) (fun v1 A1 n1 _ hQ1 => ?_)
  · obtain ⟨en1, eA1, eE1, hc1⟩ := nQ_x hQ1
    subst en1; subst eA1; subst eE1
    refine JX_out rfl (by decide) (by decide) ?_
    have e0 : (aOpp nb F w) = (aOpp nb FF w) := aOpp_c he
    have e1 : (aOpp nb F w) = (1, 0) := by unfold aOpp; rw [if_neg hc1]
    exact ⟨rfl, by rw [← e0, e1]; exact (ansR_k (ex := exB eIO eIS) (c := 1) (by decide)).symm, ⟨⟨_, _, _, _, hR, hF, hF2, hP, hru, he, hok⟩, (xx_same.rf (b := b + 16) (e := b + 46))⟩⟩
  · obtain ⟨en1, eA1, eE1, hc1⟩ := nQ_v hQ1
    subst en1; subst eA1; subst eE1
    obtain ⟨ex1, ei1⟩ := hc1.i hn h12
    refine J_aload_n dX6_opponentOf_5 rfl rfl ?_
    refine J_getf dX6_opponentOf_6 fl_X6_31 (hX.at 0 rfl) rfl ?_
    refine J_iload_n dX6_opponentOf_9 rfl rfl ?_
    refine J_callVr (As := [_]) dX6_opponentOf_10 ml_X6_159 cal_X0_rivalOf im_X0_rivalOf se_X0_rivalOf (hF.at 0 rfl) rfl rfl rfl (Nat.le_of_ble_eq_true rfl) ⟨by decide, by decide⟩ ⟨by decide, by decide⟩ (c_X0_rivalOf hst hF hb h6 _) ?_
    refine J_istore_n (L' := [(2, _), (0, _), (1, _)]) dX6_opponentOf_13 rfl (by decide) rfl ?_
    refine J_iload_n dX6_opponentOf_14 rfl rfl ?_
    refine J_iconst (v := -1) dX6_opponentOf_15 (by decide) ?_
    refine J_icmp_ne (tgt := 29) dX6_opponentOf_16 rfl (fun h16 => ?_) (fun h16 => ?_)
    · refine J_iload_n dX6_opponentOf_29 rfl rfl ?_
      refine J_ireturn dX6_opponentOf_30 rfl rfl (by decide) (by decide) ?_
      have e0 : (aOpp nb F w) = (aOpp nb FF w) := aOpp_c he
      have e1 : (aOpp nb F w) = (0, rivAt (F.2 4) (F.2 5) w nb 0) := by unfold aOpp; rw [if_pos hc1, if_neg (show ¬ rivAt (F.2 4) (F.2 5) w nb 0 = -1 from h16)]
      exact ⟨rfl, by rw [← e0, e1]; exact ansR_0.symm, ⟨⟨_, _, _, _, hR, hF, hF2, hP, hru, he, hok⟩, (xx_same.rf (b := b + 16) (e := b + 46))⟩⟩
    · refine J_throw (text := "this one has no bout in the latest round") hst dX6_opponentOf_19 dX6_opponentOf_22 dX6_opponentOf_23 dX6_opponentOf_25 dX6_opponentOf_28 (by decide) cl_X6_51 in_java_lang_IllegalStateException th3_X6_55 th4_X6_55 (by decide +kernel) rfl ⟨by decide, by decide⟩ (by decide) (by decide) ?_
      have e0 : (aOpp nb F w) = (aOpp nb FF w) := aOpp_c he
      have e1 : (aOpp nb F w) = (2, 0) := by unfold aOpp; rw [if_pos hc1, if_pos (show rivAt (F.2 4) (F.2 5) w nb 0 = -1 from h16)]
      exact ⟨rfl, by rw [← e0, e1]; exact (ansR_k (ex := exB eIO eIS) (c := 2) (by decide)).symm, ⟨⟨_, _, _, _, hR, hF, hF2, hP, hru, he, hok⟩, (xx_same.rf (b := b + 16) (e := b + 46))⟩⟩
set_option maxHeartbeats 1000000 in
theorem c_X6_restingOne (hst : l.stackTraces = false) (hX : xx_w b (layX b) A) (hG : gI b ru cr nw nb r FF A)  : xx_C G l yX6_restingOne mX6_restingOne 6 90 1 6 [.ref b] A n (xQ (exA eIS) (aRst FF) n (fun A' => gI b ru cr nw nb r FF A' ∧ xx_same (b + 16) (b + 46) A A')) := by
  obtain ⟨R, F, F2, PS, hR, hF, hF2, hP, hru, he, hok⟩ := hG
  have hn : F.1 0 = nI nw := hok.1.1
  have h12 := hok.1.2
  have hb : F.1 5 = nI nb := hok.2.1.1
  have h6 := hok.2.1.2
  refine J_C hst (by decide +kernel) rfl rfl rfl (Nat.le_of_ble_eq_true rfl) ?_
  show xx_J _ _ _ _ _ _ _ _ 0 [(0, _)] [] _ _ _ _
  refine J_aload_n dX6_restingOne_0 rfl rfl ?_
  refine J_getf dX6_restingOne_1 fl_X6_31 (hX.at 0 rfl) rfl ?_
  refine J_getf dX6_restingOne_4 fl_X6_164 (hF.at 0 rfl) rfl ?_
  refine J_iconst (v := -1) dX6_restingOne_7 (by decide) ?_
  refine J_icmp_ne (tgt := 21) dX6_restingOne_8 rfl (fun h8 => ?_) (fun h8 => ?_)
  · refine J_aload_n dX6_restingOne_21 rfl rfl ?_
    refine J_getf dX6_restingOne_22 fl_X6_31 (hX.at 0 rfl) rfl ?_
    refine J_getf dX6_restingOne_25 fl_X6_164 (hF.at 0 rfl) rfl ?_
    refine J_ireturn dX6_restingOne_28 rfl rfl (by decide) (by decide) ?_
    have e0 : (aRst F) = (aRst FF) := aRst_c he
    have e1 : (aRst F) = (0, F.1 9) := by unfold aRst; rw [if_neg (show ¬ F.1 9 = -1 from h8)]
    exact ⟨rfl, by rw [← e0, e1]; exact ansR_0.symm, ⟨⟨_, _, _, _, hR, hF, hF2, hP, hru, he, hok⟩, (xx_same.rf (b := b + 16) (e := b + 46))⟩⟩
  · refine J_throw (text := "nobody rests") hst dX6_restingOne_11 dX6_restingOne_14 dX6_restingOne_15 dX6_restingOne_17 dX6_restingOne_20 (by decide) cl_X6_51 in_java_lang_IllegalStateException th3_X6_55 th4_X6_55 (by decide +kernel) rfl ⟨by decide, by decide⟩ (by decide) (by decide) ?_
    have e0 : (aRst F) = (aRst FF) := aRst_c he
    have e1 : (aRst F) = (1, 0) := by unfold aRst; rw [if_pos (show F.1 9 = -1 from h8)]
    exact ⟨rfl, by rw [← e0, e1]; exact (ansR_k (ex := exA eIS) (c := 1) (by decide)).symm, ⟨⟨_, _, _, _, hR, hF, hF2, hP, hru, he, hok⟩, (xx_same.rf (b := b + 16) (e := b + 46))⟩⟩
set_option maxHeartbeats 1000000 in
theorem c_X6_ruledOutcome (hst : l.stackTraces = false) (hX : xx_w b (layX b) A) (hG : gI b ru cr nw nb r FF A) (w : Int32) (hrc : ∀ nb F F' i j, eqF nw nb F F' → i < nw → j < nw → ru F i j = ru F' i j) : xx_C G l yX6_ruledOutcome mX6_ruledOutcome 7 119 1 6 [.ref b, .int w] A n (xQ (exA eIO) (aRul ru FF w) n (fun A' => gI b ru cr nw nb r FF A' ∧ xx_same (b + 16) (b + 46) A A')) := by
  obtain ⟨R, F, F2, PS, hR, hF, hF2, hP, hru, he, hok⟩ := hG
  have hn : F.1 0 = nI nw := hok.1.1
  have h12 := hok.1.2
  have hb : F.1 5 = nI nb := hok.2.1.1
  have h6 := hok.2.1.2
  refine J_C hst (by decide +kernel) rfl rfl rfl (Nat.le_of_ble_eq_true rfl) ?_
  show xx_J _ _ _ _ _ _ _ _ 0 [(0, _), (1, _)] [] _ _ _ _
  refine J_aload_n dX6_ruledOutcome_0 rfl rfl ?_
  refine J_iload_n dX6_ruledOutcome_1 rfl rfl ?_
  refine J_callV (As := [_]) dX6_ruledOutcome_2 ml_X6_141 cal_X6_needBout im_X6_needBout se_X6_needBout (hX.at 0 rfl) rfl rfl rfl (Nat.le_of_ble_eq_true rfl) ⟨by decide, by decide⟩ ⟨by decide, by decide⟩ (c_X6_needBout hst hX hF w) (fun E1 A1 n1 _ hQ1 => ?_) (fun v1 A1 n1 _ hQ1 => ?_)
  · obtain ⟨en1, eA1, eE1, hc1⟩ := nQ_x hQ1
    subst en1; subst eA1; subst eE1
    refine JX_out rfl (by decide) (by decide) ?_
    have e0 : (aRul ru F w) = (aRul ru FF w) := aRul_c hrc he hok
    have e1 : (aRul ru F w) = (1, 0) := by unfold aRul; rw [if_neg hc1]
    exact ⟨rfl, by rw [← e0, e1]; exact (ansR_k (ex := exA eIO) (c := 1) (by decide)).symm, ⟨⟨_, _, _, _, hR, hF, hF2, hP, hru, he, hok⟩, (xx_same.rf (b := b + 16) (e := b + 46))⟩⟩
  · obtain ⟨en1, eA1, eE1, hc1⟩ := nQ_v hQ1
    subst en1; subst eA1; subst eE1
    obtain ⟨ex1, ei1⟩ := hc1.i hb h6
    obtain ⟨en, mt, hmt, hro, hrl⟩ := id hru
    obtain ⟨i, j, e4, hi, e5, hj, eij⟩ := hok.2.2.2.2.2.2.1 _ ei1
    refine J_aload_n dX6_ruledOutcome_5 rfl rfl ?_
    refine J_getf dX6_ruledOutcome_6 fl_X6_24 (hX.at 0 rfl) rfl ?_
    refine J_aload_n dX6_ruledOutcome_9 rfl rfl ?_
    refine J_getf dX6_ruledOutcome_10 fl_X6_31 (hX.at 0 rfl) rfl ?_
    refine J_iload_n dX6_ruledOutcome_13 rfl rfl ?_
    refine J_callVw (As := [_, _]) dX6_ruledOutcome_14 ml_X6_155 cal_X3_outcomeFor im_X3_outcomeFor se_X3_outcomeFor (hR.at 0 rfl) rfl rfl rfl (Nat.le_of_ble_eq_true rfl) ⟨by decide, by decide⟩ ⟨by decide, by decide⟩ (c_X3_outcomeFor hst hR hF (by omega) hn h12 hb h6 ex1 ei1 e4 hi e5 hj hmt hro) (fun A2 hQ2 => ?_)
    obtain ⟨st2, m2, wR2, sR2⟩ := hQ2
    have w2X := hX.s2 sR2 (m := 1) rfl (by omega)
    have w2F := hF.s2 sR2 (m := 9) rfl (by omega)
    have w2F2 := hF2.s2 sR2 (m := 9) rfl (by omega)
    have w2P := hP.s2 sR2 (m := 6) rfl (by omega)
    refine J_ireturn dX6_ruledOutcome_17 rfl rfl (by decide) (by decide) ?_
    have e0 : aRul ru F w = aRul ru FF w := aRul_c hrc he hok
    have e1 : aRul ru F w = (0, outL F i j R en cr 0 0) := by
      unfold aRul
      rw [if_pos hc1, e4, e5, wi_nI (by omega), wi_nI (by omega), hrl]
    exact ⟨rfl, by rw [← e0, e1]; exact ansR_0.symm, ⟨⟨_, _, _, _, wR2, w2F, w2F2, w2P, (hru.st), he, hok⟩, ((xx_same.rf (b := b + 16) (e := b + 46)).trans (sR2.wide (by omega) (by omega)))⟩⟩
theorem c_X6_wrestlers (hst : l.stackTraces = false) (hX : xx_w b (layX b) A) (hF : xx_w (b + 22) (layF (b + 22) F) A) (hR : xx_w (b + 16) (layR (b + 16) R) A) (hn : F.1 0 = nI nw) (h12 : nw ≤ 12) (hb : F.1 5 = nI nb) (h6 : nb ≤ 6) : xx_C G l yX6_wrestlers mX6_wrestlers 0 0 0 0 [.ref b] A n (xx_ro (some (.int (F.1 0))) A n) := by
  refine J_C hst (by decide +kernel) rfl rfl rfl (Nat.le_of_ble_eq_true rfl) ?_
  show xx_J _ _ _ _ _ _ _ _ 0 [(0, _)] [] _ _ _ _
  refine J_aload_n dX6_wrestlers_0 rfl rfl ?_
  refine J_getf dX6_wrestlers_1 fl_X6_31 (hX.at 0 rfl) rfl ?_
  refine J_getf dX6_wrestlers_4 fl_X6_93 (hF.at 0 rfl) rfl ?_
  refine J_ireturn dX6_wrestlers_7 rfl rfl (by decide) (by decide) ?_
  exact ⟨rfl, rfl, rfl⟩
theorem c_X6_rules (hst : l.stackTraces = false) (hX : xx_w b (layX b) A) (hF : xx_w (b + 22) (layF (b + 22) F) A) (hR : xx_w (b + 16) (layR (b + 16) R) A) (hn : F.1 0 = nI nw) (h12 : nw ≤ 12) (hb : F.1 5 = nI nb) (h6 : nb ≤ 6) : xx_C G l yX6_rules mX6_rules 0 0 0 0 [.ref b] A n (xx_ro (some (.int (R.1 0))) A n) := by
  refine J_C hst (by decide +kernel) rfl rfl rfl (Nat.le_of_ble_eq_true rfl) ?_
  show xx_J _ _ _ _ _ _ _ _ 0 [(0, _)] [] _ _ _ _
  refine J_aload_n dX6_rules_0 rfl rfl ?_
  refine J_getf dX6_rules_1 fl_X6_24 (hX.at 0 rfl) rfl ?_
  refine J_getf dX6_rules_4 fl_X6_97 (hR.at 0 rfl) rfl ?_
  refine J_ireturn dX6_rules_7 rfl rfl (by decide) (by decide) ?_
  exact ⟨rfl, rfl, rfl⟩
theorem c_X6_rounds (hst : l.stackTraces = false) (hX : xx_w b (layX b) A) (hF : xx_w (b + 22) (layF (b + 22) F) A) (hR : xx_w (b + 16) (layR (b + 16) R) A) (hn : F.1 0 = nI nw) (h12 : nw ≤ 12) (hb : F.1 5 = nI nb) (h6 : nb ≤ 6) : xx_C G l yX6_rounds mX6_rounds 0 0 0 0 [.ref b] A n (xx_ro (some (.int (F.1 1))) A n) := by
  refine J_C hst (by decide +kernel) rfl rfl rfl (Nat.le_of_ble_eq_true rfl) ?_
  show xx_J _ _ _ _ _ _ _ _ 0 [(0, _)] [] _ _ _ _
  refine J_aload_n dX6_rounds_0 rfl rfl ?_
  refine J_getf dX6_rounds_1 fl_X6_31 (hX.at 0 rfl) rfl ?_
  refine J_getf dX6_rounds_4 fl_X6_100 (hF.at 0 rfl) rfl ?_
  refine J_ireturn dX6_rounds_7 rfl rfl (by decide) (by decide) ?_
  exact ⟨rfl, rfl, rfl⟩
theorem c_X6_bouts (hst : l.stackTraces = false) (hX : xx_w b (layX b) A) (hF : xx_w (b + 22) (layF (b + 22) F) A) (hR : xx_w (b + 16) (layR (b + 16) R) A) (hn : F.1 0 = nI nw) (h12 : nw ≤ 12) (hb : F.1 5 = nI nb) (h6 : nb ≤ 6) : xx_C G l yX6_bouts mX6_bouts 0 0 0 0 [.ref b] A n (xx_ro (some (.int (F.1 5))) A n) := by
  refine J_C hst (by decide +kernel) rfl rfl rfl (Nat.le_of_ble_eq_true rfl) ?_
  show xx_J _ _ _ _ _ _ _ _ 0 [(0, _)] [] _ _ _ _
  refine J_aload_n dX6_bouts_0 rfl rfl ?_
  refine J_getf dX6_bouts_1 fl_X6_31 (hX.at 0 rfl) rfl ?_
  refine J_getf dX6_bouts_4 fl_X6_103 (hF.at 0 rfl) rfl ?_
  refine J_ireturn dX6_bouts_7 rfl rfl (by decide) (by decide) ?_
  exact ⟨rfl, rfl, rfl⟩
theorem c_X6_wrestlersIn (hst : l.stackTraces = false) (hX : xx_w b (layX b) A) (hF : xx_w (b + 22) (layF (b + 22) F) A) (hR : xx_w (b + 16) (layR (b + 16) R) A) (hn : F.1 0 = nI nw) (h12 : nw ≤ 12) (hb : F.1 5 = nI nb) (h6 : nb ≤ 6) : xx_C G l yX6_wrestlersIn mX6_wrestlersIn 3 66 0 0 [.ref b] A n (xx_ro (some (.int (bx_sum (fun w => F.2 2 (8 * 12 + w)) nw))) A n) := by
  refine J_C hst (by decide +kernel) rfl rfl rfl (Nat.le_of_ble_eq_true rfl) ?_
  show xx_J _ _ _ _ _ _ _ _ 0 [(0, _)] [] _ _ _ _
  refine J_aload_n dX6_wrestlersIn_0 rfl rfl ?_
  refine J_getf dX6_wrestlersIn_1 fl_X6_31 (hX.at 0 rfl) rfl ?_
  refine J_callVr (As := []) dX6_wrestlersIn_4 ml_X6_94 cal_X0_countIn im_X0_countIn se_X0_countIn (hF.at 0 rfl) rfl rfl rfl (Nat.le_of_ble_eq_true rfl) ⟨by decide, by decide⟩ ⟨by decide, by decide⟩ (c_X0_countIn hst hF hn h12) ?_
  refine J_ireturn dX6_wrestlersIn_7 rfl rfl (by decide) (by decide) ?_
  exact ⟨rfl, rfl, rfl⟩
theorem c_X6_openBouts (hst : l.stackTraces = false) (hX : xx_w b (layX b) A) (hF : xx_w (b + 22) (layF (b + 22) F) A) (hR : xx_w (b + 16) (layR (b + 16) R) A) (hn : F.1 0 = nI nw) (h12 : nw ≤ 12) (hb : F.1 5 = nI nb) (h6 : nb ≤ 6) : xx_C G l yX6_openBouts mX6_openBouts 3 64 0 0 [.ref b] A n (xx_ro (some (.int (bx_sum (opn (F.2 6)) nb))) A n) := by
  refine J_C hst (by decide +kernel) rfl rfl rfl (Nat.le_of_ble_eq_true rfl) ?_
  show xx_J _ _ _ _ _ _ _ _ 0 [(0, _)] [] _ _ _ _
  refine J_aload_n dX6_openBouts_0 rfl rfl ?_
  refine J_getf dX6_openBouts_1 fl_X6_31 (hX.at 0 rfl) rfl ?_
  refine J_callVr (As := []) dX6_openBouts_4 ml_X6_106 cal_X0_countOpen im_X0_countOpen se_X0_countOpen (hF.at 0 rfl) rfl rfl rfl (Nat.le_of_ble_eq_true rfl) ⟨by decide, by decide⟩ ⟨by decide, by decide⟩ (c_X0_countOpen hst hF hb h6) ?_
  refine J_ireturn dX6_openBouts_7 rfl rfl (by decide) (by decide) ?_
  exact ⟨rfl, rfl, rfl⟩
end XCA
