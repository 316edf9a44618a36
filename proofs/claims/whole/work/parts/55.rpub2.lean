/-! THE REFERENCE: its calls, on -/
section XSO
variable {G : xx_G} {l : Launch} {A A' : xx_H} {n : Nat} {bm bp bs bn ba : Nat} {vL nl : Nat → Int64} {M M' M1 P P' S S1 : xS} {T : xS} {len i j k q s e t d nt tok v m nw nb r : Nat} {tk : Nat → Nat}
theorem nI_m1 {a : Nat} (h : a < 1000) : ¬ nI a = -1 := fun z => by
  have e : (nI a).toInt = (-1 : Int32).toInt := by rw [z]
  rw [i_n (by omega)] at e
  have : (-1 : Int32).toInt = -1 := rfl
  omega
theorem wi_nI {a : Nat} (h : a < 1000) : wi (nI a) = a := nI_clamp (by omega)
set_option maxHeartbeats 1000000 in
theorem c_X9_errorAt (hst : l.stackTraces = false) (hM : xx_w bm (layM bp vL bn ba bm M) A) (hN : xx_w bp (layN nl bp P) A) (hS : xx_w bn (layS bn S) A) (hap : apR bm bp bn) (hok : okF (fS S P) nw nb r)  : xx_C G l yX9_errorAt mX9_errorAt 1 21 0 0 [.ref bm] A n (rdA bm bp bn ba n vL M A ((0, M.1 3) : Ans)) := by
  have hn : P.1 0 = nI nw := hok.1.1
  have h12 := hok.1.2
  have hb : S.1 1 = nI nb := hok.2.1.1
  have h6 := hok.2.1.2
  refine J_C hst (by decide +kernel) rfl rfl rfl (Nat.le_of_ble_eq_true rfl) ?_
  show xx_J _ _ _ _ _ _ _ _ 0 [(0, _)] [] _ _ _ _
  refine J_aload_n dX9_errorAt_0 rfl rfl ?_
  refine J_aload_n dX9_errorAt_1 rfl rfl ?_
  refine J_getf dX9_errorAt_2 fl_X9_13 (hM.at 0 rfl) rfl ?_
  refine J_callVw (As := [_]) dX9_errorAt_5 ml_X9_400 cal_X9_ok im_X9_ok se_X9_ok (hM.at 0 rfl) rfl rfl rfl (Nat.le_of_ble_eq_true rfl) ⟨by decide, by decide⟩ ⟨by decide, by decide⟩ (c_X9_ok hst hM _) (fun A1 hQ1 => ?_)
  skip
  refine J_ireturn dX9_errorAt_8 rfl rfl (by decide) (by decide) ?_
  unfold rdA
  exact ⟨rfl, rfl, _, (mS.s0 mS.rf), rfl, hQ1.1, ((xx_mf.rf (bm := bm)).trans hQ1.2)⟩
set_option maxHeartbeats 1000000 in
theorem c_X9_wrestlers (hst : l.stackTraces = false) (hM : xx_w bm (layM bp vL bn ba bm M) A) (hN : xx_w bp (layN nl bp P) A) (hS : xx_w bn (layS bn S) A) (hap : apR bm bp bn) (hok : okF (fS S P) nw nb r)  : xx_C G l yX9_wrestlers mX9_wrestlers 1 21 0 0 [.ref bm] A n (rdA bm bp bn ba n vL M A ((0, P.1 0) : Ans)) := by
  have hn : P.1 0 = nI nw := hok.1.1
  have h12 := hok.1.2
  have hb : S.1 1 = nI nb := hok.2.1.1
  have h6 := hok.2.1.2
  refine J_C hst (by decide +kernel) rfl rfl rfl (Nat.le_of_ble_eq_true rfl) ?_
  show xx_J _ _ _ _ _ _ _ _ 0 [(0, _)] [] _ _ _ _
  refine J_aload_n dX9_wrestlers_0 rfl rfl ?_
  refine J_aload_n dX9_wrestlers_1 rfl rfl ?_
  refine J_getf dX9_wrestlers_2 fl_X9_20 (hM.at 0 rfl) rfl ?_
  refine J_getf dX9_wrestlers_5 fl_X9_65 (hN.at 0 rfl) rfl ?_
  refine J_callVw (As := [_]) dX9_wrestlers_8 ml_X9_400 cal_X9_ok im_X9_ok se_X9_ok (hM.at 0 rfl) rfl rfl rfl (Nat.le_of_ble_eq_true rfl) ⟨by decide, by decide⟩ ⟨by decide, by decide⟩ (c_X9_ok hst hM _) (fun A1 hQ1 => ?_)
  skip
  refine J_ireturn dX9_wrestlers_11 rfl rfl (by decide) (by decide) ?_
  unfold rdA
  exact ⟨rfl, rfl, _, (mS.s0 mS.rf), rfl, hQ1.1, ((xx_mf.rf (bm := bm)).trans hQ1.2)⟩
set_option maxHeartbeats 1000000 in
theorem c_X9_rules (hst : l.stackTraces = false) (hM : xx_w bm (layM bp vL bn ba bm M) A) (hN : xx_w bp (layN nl bp P) A) (hS : xx_w bn (layS bn S) A) (hap : apR bm bp bn) (hok : okF (fS S P) nw nb r)  : xx_C G l yX9_rules mX9_rules 1 21 0 0 [.ref bm] A n (rdA bm bp bn ba n vL M A ((0, P.1 4) : Ans)) := by
  have hn : P.1 0 = nI nw := hok.1.1
  have h12 := hok.1.2
  have hb : S.1 1 = nI nb := hok.2.1.1
  have h6 := hok.2.1.2
  refine J_C hst (by decide +kernel) rfl rfl rfl (Nat.le_of_ble_eq_true rfl) ?_
  show xx_J _ _ _ _ _ _ _ _ 0 [(0, _)] [] _ _ _ _
  refine J_aload_n dX9_rules_0 rfl rfl ?_
  refine J_aload_n dX9_rules_1 rfl rfl ?_
  refine J_getf dX9_rules_2 fl_X9_20 (hM.at 0 rfl) rfl ?_
  refine J_getf dX9_rules_5 fl_X9_192 (hN.at 0 rfl) rfl ?_
  refine J_callVw (As := [_]) dX9_rules_8 ml_X9_400 cal_X9_ok im_X9_ok se_X9_ok (hM.at 0 rfl) rfl rfl rfl (Nat.le_of_ble_eq_true rfl) ⟨by decide, by decide⟩ ⟨by decide, by decide⟩ (c_X9_ok hst hM _) (fun A1 hQ1 => ?_)
  skip
  refine J_ireturn dX9_rules_11 rfl rfl (by decide) (by decide) ?_
  unfold rdA
  exact ⟨rfl, rfl, _, (mS.s0 mS.rf), rfl, hQ1.1, ((xx_mf.rf (bm := bm)).trans hQ1.2)⟩
set_option maxHeartbeats 1000000 in
theorem c_X9_rounds (hst : l.stackTraces = false) (hM : xx_w bm (layM bp vL bn ba bm M) A) (hN : xx_w bp (layN nl bp P) A) (hS : xx_w bn (layS bn S) A) (hap : apR bm bp bn) (hok : okF (fS S P) nw nb r)  : xx_C G l yX9_rounds mX9_rounds 1 21 0 0 [.ref bm] A n (rdA bm bp bn ba n vL M A ((0, S.1 0) : Ans)) := by
  have hn : P.1 0 = nI nw := hok.1.1
  have h12 := hok.1.2
  have hb : S.1 1 = nI nb := hok.2.1.1
  have h6 := hok.2.1.2
  refine J_C hst (by decide +kernel) rfl rfl rfl (Nat.le_of_ble_eq_true rfl) ?_
  show xx_J _ _ _ _ _ _ _ _ 0 [(0, _)] [] _ _ _ _
  refine J_aload_n dX9_rounds_0 rfl rfl ?_
  refine J_aload_n dX9_rounds_1 rfl rfl ?_
  refine J_getf dX9_rounds_2 fl_X9_40 (hM.at 0 rfl) rfl ?_
  refine J_getf dX9_rounds_5 fl_X9_101 (hS.at 0 rfl) rfl ?_
  refine J_callVw (As := [_]) dX9_rounds_8 ml_X9_400 cal_X9_ok im_X9_ok se_X9_ok (hM.at 0 rfl) rfl rfl rfl (Nat.le_of_ble_eq_true rfl) ⟨by decide, by decide⟩ ⟨by decide, by decide⟩ (c_X9_ok hst hM _) (fun A1 hQ1 => ?_)
  skip
  refine J_ireturn dX9_rounds_11 rfl rfl (by decide) (by decide) ?_
  unfold rdA
  exact ⟨rfl, rfl, _, (mS.s0 mS.rf), rfl, hQ1.1, ((xx_mf.rf (bm := bm)).trans hQ1.2)⟩
set_option maxHeartbeats 1000000 in
theorem c_X9_tapeBytes (hst : l.stackTraces = false) (hM : xx_w bm (layM bp vL bn ba bm M) A) (hN : xx_w bp (layN nl bp P) A) (hS : xx_w bn (layS bn S) A) (hap : apR bm bp bn) (hok : okF (fS S P) nw nb r)  : xx_C G l yX9_tapeBytes mX9_tapeBytes 1 21 0 0 [.ref bm] A n (rdA bm bp bn ba n vL M A ((0, M.1 2) : Ans)) := by
  have hn : P.1 0 = nI nw := hok.1.1
  have h12 := hok.1.2
  have hb : S.1 1 = nI nb := hok.2.1.1
  have h6 := hok.2.1.2
  refine J_C hst (by decide +kernel) rfl rfl rfl (Nat.le_of_ble_eq_true rfl) ?_
  show xx_J _ _ _ _ _ _ _ _ 0 [(0, _)] [] _ _ _ _
  refine J_aload_n dX9_tapeBytes_0 rfl rfl ?_
  refine J_aload_n dX9_tapeBytes_1 rfl rfl ?_
  refine J_getf dX9_tapeBytes_2 fl_X9_259 (hM.at 0 rfl) rfl ?_
  refine J_callVw (As := [_]) dX9_tapeBytes_5 ml_X9_400 cal_X9_ok im_X9_ok se_X9_ok (hM.at 0 rfl) rfl rfl rfl (Nat.le_of_ble_eq_true rfl) ⟨by decide, by decide⟩ ⟨by decide, by decide⟩ (c_X9_ok hst hM _) (fun A1 hQ1 => ?_)
  skip
  refine J_ireturn dX9_tapeBytes_8 rfl rfl (by decide) (by decide) ?_
  unfold rdA
  exact ⟨rfl, rfl, _, (mS.s0 mS.rf), rfl, hQ1.1, ((xx_mf.rf (bm := bm)).trans hQ1.2)⟩
set_option maxHeartbeats 1000000 in
theorem c_X9_bouts (hst : l.stackTraces = false) (hM : xx_w bm (layM bp vL bn ba bm M) A) (hN : xx_w bp (layN nl bp P) A) (hS : xx_w bn (layS bn S) A) (hap : apR bm bp bn) (hok : okF (fS S P) nw nb r)  : xx_C G l yX9_bouts mX9_bouts 1 21 0 0 [.ref bm] A n (rdA bm bp bn ba n vL M A ((0, S.1 1) : Ans)) := by
  have hn : P.1 0 = nI nw := hok.1.1
  have h12 := hok.1.2
  have hb : S.1 1 = nI nb := hok.2.1.1
  have h6 := hok.2.1.2
  refine J_C hst (by decide +kernel) rfl rfl rfl (Nat.le_of_ble_eq_true rfl) ?_
  show xx_J _ _ _ _ _ _ _ _ 0 [(0, _)] [] _ _ _ _
  refine J_aload_n dX9_bouts_0 rfl rfl ?_
  refine J_aload_n dX9_bouts_1 rfl rfl ?_
  refine J_getf dX9_bouts_2 fl_X9_40 (hM.at 0 rfl) rfl ?_
  refine J_getf dX9_bouts_5 fl_X9_151 (hS.at 0 rfl) rfl ?_
  refine J_callVw (As := [_]) dX9_bouts_8 ml_X9_400 cal_X9_ok im_X9_ok se_X9_ok (hM.at 0 rfl) rfl rfl rfl (Nat.le_of_ble_eq_true rfl) ⟨by decide, by decide⟩ ⟨by decide, by decide⟩ (c_X9_ok hst hM _) (fun A1 hQ1 => ?_)
  skip
  refine J_ireturn dX9_bouts_11 rfl rfl (by decide) (by decide) ?_
  unfold rdA
  exact ⟨rfl, rfl, _, (mS.s0 mS.rf), rfl, hQ1.1, ((xx_mf.rf (bm := bm)).trans hQ1.2)⟩
set_option maxHeartbeats 1000000 in
theorem c_X9_wrestlersIn (hst : l.stackTraces = false) (hM : xx_w bm (layM bp vL bn ba bm M) A) (hN : xx_w bp (layN nl bp P) A) (hS : xx_w bn (layS bn S) A) (hap : apR bm bp bn) (hok : okF (fS S P) nw nb r)  : xx_C G l yX9_wrestlersIn mX9_wrestlersIn 1 23 0 0 [.ref bm] A n (rdA bm bp bn ba n vL M A ((0, bx_sum (fun w => (fS S P).2 2 (8 * 12 + w)) nw) : Ans)) := by
  have hn : P.1 0 = nI nw := hok.1.1
  have h12 := hok.1.2
  have hb : S.1 1 = nI nb := hok.2.1.1
  have h6 := hok.2.1.2
  refine J_C hst (by decide +kernel) rfl rfl rfl (Nat.le_of_ble_eq_true rfl) ?_
  show xx_J _ _ _ _ _ _ _ _ 0 [(0, _)] [] _ _ _ _
  refine J_aload_n dX9_wrestlersIn_0 rfl rfl ?_
  refine J_aload_n dX9_wrestlersIn_1 rfl rfl ?_
  refine J_aload_n dX9_wrestlersIn_2 rfl rfl ?_
  refine J_getf dX9_wrestlersIn_3 fl_X9_40 (hM.at 0 rfl) rfl ?_
  refine J_callVr (As := [_]) dX9_wrestlersIn_6 ml_X9_104 cal_X9_in im_X9_in se_X9_in (hM.at 0 rfl) rfl rfl rfl (Nat.le_of_ble_eq_true rfl) ⟨by decide, by decide⟩ ⟨by decide, by decide⟩ (c_X9_in hst hM hN hS hn h12) ?_
  refine J_callVw (As := [_]) dX9_wrestlersIn_9 ml_X9_400 cal_X9_ok im_X9_ok se_X9_ok (hM.at 0 rfl) rfl rfl rfl (Nat.le_of_ble_eq_true rfl) ⟨by decide, by decide⟩ ⟨by decide, by decide⟩ (c_X9_ok hst hM _) (fun A1 hQ1 => ?_)
  skip
  refine J_ireturn dX9_wrestlersIn_12 rfl rfl (by decide) (by decide) ?_
  unfold rdA
  exact ⟨rfl, rfl, _, (mS.s0 mS.rf), rfl, hQ1.1, ((xx_mf.rf (bm := bm)).trans hQ1.2)⟩
set_option maxHeartbeats 1000000 in
theorem c_X9_openBouts (hst : l.stackTraces = false) (hM : xx_w bm (layM bp vL bn ba bm M) A) (hN : xx_w bp (layN nl bp P) A) (hS : xx_w bn (layS bn S) A) (hap : apR bm bp bn) (hok : okF (fS S P) nw nb r)  : xx_C G l yX9_openBouts mX9_openBouts 1 22 0 0 [.ref bm] A n (rdA bm bp bn ba n vL M A ((0, bx_sum (opn (S.2 13)) nb) : Ans)) := by
  have hn : P.1 0 = nI nw := hok.1.1
  have h12 := hok.1.2
  have hb : S.1 1 = nI nb := hok.2.1.1
  have h6 := hok.2.1.2
  refine J_C hst (by decide +kernel) rfl rfl rfl (Nat.le_of_ble_eq_true rfl) ?_
  show xx_J _ _ _ _ _ _ _ _ 0 [(0, _)] [] _ _ _ _
  refine J_aload_n dX9_openBouts_0 rfl rfl ?_
  refine J_aload_n dX9_openBouts_1 rfl rfl ?_
  refine J_getf dX9_openBouts_2 fl_X9_40 (hM.at 0 rfl) rfl ?_
  refine J_callVr (As := []) dX9_openBouts_5 ml_X9_97 cal_X8_open im_X8_open se_X8_open (hS.at 0 rfl) rfl rfl rfl (Nat.le_of_ble_eq_true rfl) ⟨by decide, by decide⟩ ⟨by decide, by decide⟩ (c_X8_open hst hS hb h6) ?_
  refine J_callVw (As := [_]) dX9_openBouts_8 ml_X9_400 cal_X9_ok im_X9_ok se_X9_ok (hM.at 0 rfl) rfl rfl rfl (Nat.le_of_ble_eq_true rfl) ⟨by decide, by decide⟩ ⟨by decide, by decide⟩ (c_X9_ok hst hM _) (fun A1 hQ1 => ?_)
  skip
  refine J_ireturn dX9_openBouts_11 rfl rfl (by decide) (by decide) ?_
  unfold rdA
  exact ⟨rfl, rfl, _, (mS.s0 mS.rf), rfl, hQ1.1, ((xx_mf.rf (bm := bm)).trans hQ1.2)⟩
set_option maxHeartbeats 1000000 in
theorem c_X9_isIn_ (hst : l.stackTraces = false) (hM : xx_w bm (layM bp vL bn ba bm M) A) (hN : xx_w bp (layN nl bp P) A) (hS : xx_w bn (layS bn S) A) (hap : apR bm bp bn) (hok : okF (fS S P) nw nb r) (w : Int32) : xx_C G l yX9_isIn_ mX9_isIn_ 2 43 0 0 [.ref bm, .int w] A n (rdA bm bp bn ba n vL M A (aIn (fS S P) w)) := by
  have hn : P.1 0 = nI nw := hok.1.1
  have h12 := hok.1.2
  have hb : S.1 1 = nI nb := hok.2.1.1
  have h6 := hok.2.1.2
  refine J_C hst (by decide +kernel) rfl rfl rfl (Nat.le_of_ble_eq_true rfl) ?_
  show xx_J _ _ _ _ _ _ _ _ 0 [(0, _), (1, _)] [] _ _ _ _
  refine J_aload_n dX9_isIn__0 rfl rfl ?_
  refine J_iconst (v := 0) dX9_isIn__1 (by decide) ?_
  refine J_putf dX9_isIn__2 fp_X9_62 (fun _ => ⟨rfl, rfl⟩) (hM.at 0 rfl) (Nat.le_of_ble_eq_true rfl) ?_
  refine J_genA (wM_s0_0 hM _) ((xx_mf.rf (bm := bm)).put (by omega) (by omega) _) (fun A1 w1 s1 o1 => ?_)
  have w1N := hN.mo o1 (m := 9) rfl hap.p (Or.inl rfl)
  have w1S := hS.mo o1 (m := 14) rfl hap.s (Or.inl rfl)
  refine J_aload_n dX9_isIn__5 rfl rfl ?_
  refine J_iload_n dX9_isIn__6 rfl rfl ?_
  refine J_callVr (As := [_]) dX9_isIn__7 ml_X9_403 cal_X9_isOne im_X9_isOne se_X9_isOne (w1.at 0 rfl) rfl rfl rfl (Nat.le_of_ble_eq_true rfl) ⟨by decide, by decide⟩ ⟨by decide, by decide⟩ (c_X9_isOne hst w1 w1N hn h12 _) ?_
  refine J_ifb_eq (tgt := 33) dX9_isIn__10 rfl (fun h10 => ?_) (fun h10 => ?_)
  · have kh10 : ¬ (okW (fS S P) w) := h10
    refine J_aload_n dX9_isIn__33 rfl rfl ?_
    refine J_iconst (v := 1) dX9_isIn__34 (by decide) ?_
    refine J_callVw (As := [_]) dX9_isIn__35 ml_X9_410 cal_X9_isNot im_X9_isNot se_X9_isNot (w1.at 0 rfl) rfl rfl rfl (Nat.le_of_ble_eq_true rfl) ⟨by decide, by decide⟩ ⟨by decide, by decide⟩ (c_X9_isNot hst w1 _) (fun A2 hQ2 => ?_)
    skip
    refine J_ireturn dX9_isIn__38 rfl rfl (by decide) (by decide) ?_
    have e1 : (aIn (fS S P) w) = (1, 0) := by unfold aIn; rw [if_neg kh10]
    unfold rdA
    rw [e1]
    exact ⟨rfl, rfl, _, (mS.s0 (mS.s0 mS.rf)), rfl, hQ2.1, (s1.trans hQ2.2)⟩
  · have kh10 : (okW (fS S P) w) := h10
    obtain ⟨ex10, ei10⟩ := kh10.i hn h12
    refine J_aload_n dX9_isIn__13 rfl rfl ?_
    refine J_getf dX9_isIn__14 fl_X9_40 (w1.at 0 rfl) rfl ?_
    refine J_getf dX9_isIn__17 fl_X9_93 (w1S.at 0 rfl) rfl ?_
    refine J_iload_n dX9_isIn__20 rfl rfl ?_
    refine J_zaldN (wi w) dX9_isIn__21 (w1S.at 9 rfl) ex10 (by omega) (by decide) ?_
    refine J_if_ne (tgt := 29) dX9_isIn__22 rfl (fun h22 => ?_) (fun h22 => ?_)
    · refine J_iconst (v := 0) dX9_isIn__29 (by decide) ?_
      refine J_goto (tgt := 38) dX9_isIn__30 rfl ?_
      refine J_ireturn dX9_isIn__38 rfl rfl (by decide) (by decide) ?_
      have e1 : aIn (fS S P) w = (0, 0) := by
        unfold aIn
        rw [if_pos kh10, fS_c (by omega)]
        show (0, xx_b (¬ (if S.2 9 (wi w) = 0 then (1 : Int32) else 0) = 0)) = _
        rw [if_neg (show ¬ S.2 9 (wi w) = 0 from h22)]
        rfl
      unfold rdA
      rw [e1]
      exact ⟨rfl, rfl, _, (mS.s0 mS.rf), rfl, w1, s1⟩
    · refine J_iconst (v := 1) dX9_isIn__25 (by decide) ?_
      refine J_goto (tgt := 38) dX9_isIn__26 rfl ?_
      refine J_ireturn dX9_isIn__38 rfl rfl (by decide) (by decide) ?_
      have e1 : aIn (fS S P) w = (0, 1) := by
        unfold aIn
        rw [if_pos kh10, fS_c (by omega)]
        show (0, xx_b (¬ (if S.2 9 (wi w) = 0 then (1 : Int32) else 0) = 0)) = _
        rw [if_pos (show S.2 9 (wi w) = 0 from h22)]
        rfl
      unfold rdA
      rw [e1]
      exact ⟨rfl, rfl, _, (mS.s0 mS.rf), rfl, w1, s1⟩
set_option maxHeartbeats 1000000 in
theorem c_X9_outcomeOf (hst : l.stackTraces = false) (hM : xx_w bm (layM bp vL bn ba bm M) A) (hN : xx_w bp (layN nl bp P) A) (hS : xx_w bn (layS bn S) A) (hap : apR bm bp bn) (hok : okF (fS S P) nw nb r) (w : Int32) : xx_C G l yX9_outcomeOf mX9_outcomeOf 2 43 0 0 [.ref bm, .int w] A n (rdA bm bp bn ba n vL M A (aOut (fS S P) w)) := by
  have hn : P.1 0 = nI nw := hok.1.1
  have h12 := hok.1.2
  have hb : S.1 1 = nI nb := hok.2.1.1
  have h6 := hok.2.1.2
  refine J_C hst (by decide +kernel) rfl rfl rfl (Nat.le_of_ble_eq_true rfl) ?_
  show xx_J _ _ _ _ _ _ _ _ 0 [(0, _), (1, _)] [] _ _ _ _
  refine J_aload_n dX9_outcomeOf_0 rfl rfl ?_
  refine J_iconst (v := 0) dX9_outcomeOf_1 (by decide) ?_
  refine J_putf dX9_outcomeOf_2 fp_X9_62 (fun _ => ⟨rfl, rfl⟩) (hM.at 0 rfl) (Nat.le_of_ble_eq_true rfl) ?_
  refine J_genA (wM_s0_0 hM _) ((xx_mf.rf (bm := bm)).put (by omega) (by omega) _) (fun A1 w1 s1 o1 => ?_)
  have w1N := hN.mo o1 (m := 9) rfl hap.p (Or.inl rfl)
  have w1S := hS.mo o1 (m := 14) rfl hap.s (Or.inl rfl)
  refine J_aload_n dX9_outcomeOf_5 rfl rfl ?_
  refine J_iload_n dX9_outcomeOf_6 rfl rfl ?_
  refine J_callVr (As := [_]) dX9_outcomeOf_7 ml_X9_413 cal_X9_isBout im_X9_isBout se_X9_isBout (w1.at 0 rfl) rfl rfl rfl (Nat.le_of_ble_eq_true rfl) ⟨by decide, by decide⟩ ⟨by decide, by decide⟩ (c_X9_isBout hst w1 w1N w1S hap hok _) ?_
  refine J_ifb_ne (tgt := 19) dX9_outcomeOf_10 rfl (fun h10 => ?_) (fun h10 => ?_)
  · have kh10 : (okB (fS S P) w) := h10
    obtain ⟨ex10, ei10⟩ := kh10.i hb h6
    refine J_aload_n dX9_outcomeOf_19 rfl rfl ?_
    refine J_getf dX9_outcomeOf_20 fl_X9_40 (w1.at 0 rfl) rfl ?_
    refine J_getf dX9_outcomeOf_23 fl_X9_177 (w1S.at 0 rfl) rfl ?_
    refine J_iload_n dX9_outcomeOf_26 rfl rfl ?_
    refine J_ialdN (wi w) dX9_outcomeOf_27 (w1S.at 13 rfl) ex10 (by omega) (by decide) ?_
    refine J_iconst (v := -1) dX9_outcomeOf_28 (by decide) ?_
    refine J_icmp_ne (tgt := 40) dX9_outcomeOf_29 rfl (fun h29 => ?_) (fun h29 => ?_)
    · refine J_aload_n dX9_outcomeOf_40 rfl rfl ?_
      refine J_getf dX9_outcomeOf_41 fl_X9_40 (w1.at 0 rfl) rfl ?_
      refine J_getf dX9_outcomeOf_44 fl_X9_177 (w1S.at 0 rfl) rfl ?_
      refine J_iload_n dX9_outcomeOf_47 rfl rfl ?_
      refine J_ialdN (wi w) dX9_outcomeOf_48 (w1S.at 13 rfl) ex10 (by omega) (by decide) ?_
      refine J_ireturn dX9_outcomeOf_49 rfl rfl (by decide) (by decide) ?_
      have e1 : (aOut (fS S P) w) = (0, (fS S P).2 6 (wi w)) := by unfold aOut; rw [if_pos kh10, if_neg (show ¬ (fS S P).2 6 (wi w) = -1 from h29)]
      unfold rdA
      rw [e1]
      exact ⟨rfl, rfl, _, (mS.s0 mS.rf), rfl, w1, s1⟩
    · refine J_aload_n dX9_outcomeOf_32 rfl rfl ?_
      refine J_iconst (v := 2) dX9_outcomeOf_33 (by decide) ?_
      refine J_callVw (As := [_]) dX9_outcomeOf_34 ml_X9_393 cal_X9_no im_X9_no se_X9_no (w1.at 0 rfl) rfl rfl rfl (Nat.le_of_ble_eq_true rfl) ⟨by decide, by decide⟩ ⟨by decide, by decide⟩ (c_X9_no hst w1 _) (fun A2 hQ2 => ?_)
      skip
      refine J_goto (tgt := 49) dX9_outcomeOf_37 rfl ?_
      refine J_ireturn dX9_outcomeOf_49 rfl rfl (by decide) (by decide) ?_
      have e1 : (aOut (fS S P) w) = (2, 0) := by unfold aOut; rw [if_pos kh10, if_pos (show (fS S P).2 6 (wi w) = -1 from h29)]
      unfold rdA
      rw [e1]
      exact ⟨rfl, rfl, _, (mS.s0 (mS.s0 mS.rf)), rfl, hQ2.1, (s1.trans hQ2.2)⟩
  · have kh10 : ¬ (okB (fS S P) w) := h10
    refine J_aload_n dX9_outcomeOf_13 rfl rfl ?_
    refine J_iconst (v := 1) dX9_outcomeOf_14 (by decide) ?_
    refine J_callVw (As := [_]) dX9_outcomeOf_15 ml_X9_393 cal_X9_no im_X9_no se_X9_no (w1.at 0 rfl) rfl rfl rfl (Nat.le_of_ble_eq_true rfl) ⟨by decide, by decide⟩ ⟨by decide, by decide⟩ (c_X9_no hst w1 _) (fun A3 hQ3 => ?_)
    skip
    refine J_ireturn dX9_outcomeOf_18 rfl rfl (by decide) (by decide) ?_
    have e1 : (aOut (fS S P) w) = (1, 0) := by unfold aOut; rw [if_neg kh10]
    unfold rdA
    rw [e1]
    exact ⟨rfl, rfl, _, (mS.s0 (mS.s0 mS.rf)), rfl, hQ3.1, (s1.trans hQ3.2)⟩
set_option maxHeartbeats 1000000 in
theorem c_X9_restingOne (hst : l.stackTraces = false) (hM : xx_w bm (layM bp vL bn ba bm M) A) (hN : xx_w bp (layN nl bp P) A) (hS : xx_w bn (layS bn S) A) (hap : apR bm bp bn) (hok : okF (fS S P) nw nb r)  : xx_C G l yX9_restingOne mX9_restingOne 1 21 0 0 [.ref bm] A n (rdA bm bp bn ba n vL M A (aRst (fS S P))) := by
  have hn : P.1 0 = nI nw := hok.1.1
  have h12 := hok.1.2
  have hb : S.1 1 = nI nb := hok.2.1.1
  have h6 := hok.2.1.2
  refine J_C hst (by decide +kernel) rfl rfl rfl (Nat.le_of_ble_eq_true rfl) ?_
  show xx_J _ _ _ _ _ _ _ _ 0 [(0, _)] [] _ _ _ _
  refine J_aload_n dX9_restingOne_0 rfl rfl ?_
  refine J_iconst (v := 0) dX9_restingOne_1 (by decide) ?_
  refine J_putf dX9_restingOne_2 fp_X9_62 (fun _ => ⟨rfl, rfl⟩) (hM.at 0 rfl) (Nat.le_of_ble_eq_true rfl) ?_
  refine J_genA (wM_s0_0 hM _) ((xx_mf.rf (bm := bm)).put (by omega) (by omega) _) (fun A1 w1 s1 o1 => ?_)
  have w1N := hN.mo o1 (m := 9) rfl hap.p (Or.inl rfl)
  have w1S := hS.mo o1 (m := 14) rfl hap.s (Or.inl rfl)
  refine J_aload_n dX9_restingOne_5 rfl rfl ?_
  refine J_getf dX9_restingOne_6 fl_X9_40 (w1.at 0 rfl) rfl ?_
  refine J_getf dX9_restingOne_9 fl_X9_154 (w1S.at 0 rfl) rfl ?_
  refine J_iconst (v := -1) dX9_restingOne_12 (by decide) ?_
  refine J_icmp_ne (tgt := 24) dX9_restingOne_13 rfl (fun h13 => ?_) (fun h13 => ?_)
  · refine J_aload_n dX9_restingOne_24 rfl rfl ?_
    refine J_getf dX9_restingOne_25 fl_X9_40 (w1.at 0 rfl) rfl ?_
    refine J_getf dX9_restingOne_28 fl_X9_154 (w1S.at 0 rfl) rfl ?_
    refine J_ireturn dX9_restingOne_31 rfl rfl (by decide) (by decide) ?_
    have e1 : (aRst (fS S P)) = (0, (fS S P).1 9) := by unfold aRst; rw [if_neg (show ¬ (fS S P).1 9 = -1 from h13)]
    unfold rdA
    rw [e1]
    exact ⟨rfl, rfl, _, (mS.s0 mS.rf), rfl, w1, s1⟩
  · refine J_aload_n dX9_restingOne_16 rfl rfl ?_
    refine J_iconst (v := 1) dX9_restingOne_17 (by decide) ?_
    refine J_callVw (As := [_]) dX9_restingOne_18 ml_X9_393 cal_X9_no im_X9_no se_X9_no (w1.at 0 rfl) rfl rfl rfl (Nat.le_of_ble_eq_true rfl) ⟨by decide, by decide⟩ ⟨by decide, by decide⟩ (c_X9_no hst w1 _) (fun A2 hQ2 => ?_)
    skip
    refine J_goto (tgt := 31) dX9_restingOne_21 rfl ?_
    refine J_ireturn dX9_restingOne_31 rfl rfl (by decide) (by decide) ?_
    have e1 : (aRst (fS S P)) = (1, 0) := by unfold aRst; rw [if_pos (show (fS S P).1 9 = -1 from h13)]
    unfold rdA
    rw [e1]
    exact ⟨rfl, rfl, _, (mS.s0 (mS.s0 mS.rf)), rfl, hQ2.1, (s1.trans hQ2.2)⟩
set_option maxHeartbeats 1000000 in
theorem c_X9_ruledOutcome (hst : l.stackTraces = false) (hM : xx_w bm (layM bp vL bn ba bm M) A) (hN : xx_w bp (layN nl bp P) A) (hS : xx_w bn (layS bn S) A) (hap : apR bm bp bn) (hok : okF (fS S P) nw nb r) (w : Int32) {nr : Nat} (hpl : plV P nr) {ru : xS → Nat → Nat → Int32} (hru : ∀ S i j, i < nw → j < nw → outR S P i j nr 0 = ru (fS S P) i j) : xx_C G l yX9_ruledOutcome mX9_ruledOutcome 4 96 0 0 [.ref bm, .int w] A n (rdA bm bp bn ba n vL M A (aRul ru (fS S P) w)) := by
  have hn : P.1 0 = nI nw := hok.1.1
  have h12 := hok.1.2
  have hb : S.1 1 = nI nb := hok.2.1.1
  have h6 := hok.2.1.2
  refine J_C hst (by decide +kernel) rfl rfl rfl (Nat.le_of_ble_eq_true rfl) ?_
  show xx_J _ _ _ _ _ _ _ _ 0 [(0, _), (1, _)] [] _ _ _ _
  refine J_aload_n dX9_ruledOutcome_0 rfl rfl ?_
  refine J_iconst (v := 0) dX9_ruledOutcome_1 (by decide) ?_
  refine J_putf dX9_ruledOutcome_2 fp_X9_62 (fun _ => ⟨rfl, rfl⟩) (hM.at 0 rfl) (Nat.le_of_ble_eq_true rfl) ?_
  refine J_genA (wM_s0_0 hM _) ((xx_mf.rf (bm := bm)).put (by omega) (by omega) _) (fun A1 w1 s1 o1 => ?_)
  have w1N := hN.mo o1 (m := 9) rfl hap.p (Or.inl rfl)
  have w1S := hS.mo o1 (m := 14) rfl hap.s (Or.inl rfl)
  refine J_aload_n dX9_ruledOutcome_5 rfl rfl ?_
  refine J_iload_n dX9_ruledOutcome_6 rfl rfl ?_
  refine J_callVr (As := [_]) dX9_ruledOutcome_7 ml_X9_413 cal_X9_isBout im_X9_isBout se_X9_isBout (w1.at 0 rfl) rfl rfl rfl (Nat.le_of_ble_eq_true rfl) ⟨by decide, by decide⟩ ⟨by decide, by decide⟩ (c_X9_isBout hst w1 w1N w1S hap hok _) ?_
  refine J_ifb_eq (tgt := 25) dX9_ruledOutcome_10 rfl (fun h10 => ?_) (fun h10 => ?_)
  · have kh10 : ¬ (okB (fS S P) w) := h10
    refine J_aload_n dX9_ruledOutcome_25 rfl rfl ?_
    refine J_iconst (v := 1) dX9_ruledOutcome_26 (by decide) ?_
    refine J_callVw (As := [_]) dX9_ruledOutcome_27 ml_X9_393 cal_X9_no im_X9_no se_X9_no (w1.at 0 rfl) rfl rfl rfl (Nat.le_of_ble_eq_true rfl) ⟨by decide, by decide⟩ ⟨by decide, by decide⟩ (c_X9_no hst w1 _) (fun A2 hQ2 => ?_)
    skip
    refine J_ireturn dX9_ruledOutcome_30 rfl rfl (by decide) (by decide) ?_
    have e1 : (aRul ru (fS S P) w) = (1, 0) := by unfold aRul; rw [if_neg kh10]
    unfold rdA
    rw [e1]
    exact ⟨rfl, rfl, _, (mS.s0 (mS.s0 mS.rf)), rfl, hQ2.1, (s1.trans hQ2.2)⟩
  · have kh10 : (okB (fS S P) w) := h10
    obtain ⟨ex10, ei10⟩ := kh10.i hb h6
    obtain ⟨i, j, e4, hi, e5, hj, eij⟩ := hok.2.2.2.2.2.2.1 _ ei10
    refine J_aload_n dX9_ruledOutcome_13 rfl rfl ?_
    refine J_aload_n dX9_ruledOutcome_14 rfl rfl ?_
    refine J_getf dX9_ruledOutcome_15 fl_X9_40 (w1.at 0 rfl) rfl ?_
    refine J_iload_n dX9_ruledOutcome_18 rfl rfl ?_
    refine J_callVw (As := [_, _]) dX9_ruledOutcome_19 ml_X9_201 cal_X9_ruled im_X9_ruled se_X9_ruled (w1.at 0 rfl) rfl rfl rfl (Nat.le_of_ble_eq_true rfl) ⟨by decide, by decide⟩ ⟨by decide, by decide⟩ (c_X9_ruled hst w1 w1N w1S hap ex10 (by omega) e4 (by omega) e5 (by omega) hpl) (fun A3 hQ3 => ?_)
    obtain ⟨M_3, sc_3, hM_3, hs_3⟩ := hQ3
    refine J_goto (tgt := 30) dX9_ruledOutcome_22 rfl ?_
    refine J_ireturn dX9_ruledOutcome_30 rfl rfl (by decide) (by decide) ?_
    have e1 : aRul ru (fS S P) w = (0, outR S P i j nr 0) := by
      unfold aRul
      rw [if_pos kh10, e4, e5, wi_nI (by omega), wi_nI (by omega), hru S i j hi hj]
    unfold rdA
    rw [e1]
    exact ⟨rfl, rfl, _, ((mS.s0 mS.rf).trans sc_3.mS), (sc_3.1 0 (by decide)), hM_3, (s1.trans hs_3)⟩
set_option maxHeartbeats 1000000 in
theorem c_X9_opponentOf (hst : l.stackTraces = false) (hM : xx_w bm (layM bp vL bn ba bm M) A) (hN : xx_w bp (layN nl bp P) A) (hS : xx_w bn (layS bn S) A) (hap : apR bm bp bn) (hok : okF (fS S P) nw nb r) (w : Int32) : xx_C G l yX9_opponentOf mX9_opponentOf 2 43 0 0 [.ref bm, .int w] A n (rdA bm bp bn ba n vL M A (aOpp nb (fS S P) w)) := by
  have hn : P.1 0 = nI nw := hok.1.1
  have h12 := hok.1.2
  have hb : S.1 1 = nI nb := hok.2.1.1
  have h6 := hok.2.1.2
  refine J_C hst (by decide +kernel) rfl rfl rfl (Nat.le_of_ble_eq_true rfl) ?_
  show xx_J _ _ _ _ _ _ _ _ 0 [(0, _), (1, _)] [] _ _ _ _
  refine J_aload_n dX9_opponentOf_0 rfl rfl ?_
  refine J_iconst (v := 0) dX9_opponentOf_1 (by decide) ?_
  refine J_putf dX9_opponentOf_2 fp_X9_62 (fun _ => ⟨rfl, rfl⟩) (hM.at 0 rfl) (Nat.le_of_ble_eq_true rfl) ?_
  refine J_genA (wM_s0_0 hM _) ((xx_mf.rf (bm := bm)).put (by omega) (by omega) _) (fun A1 w1 s1 o1 => ?_)
  have w1N := hN.mo o1 (m := 9) rfl hap.p (Or.inl rfl)
  have w1S := hS.mo o1 (m := 14) rfl hap.s (Or.inl rfl)
  refine J_aload_n dX9_opponentOf_5 rfl rfl ?_
  refine J_iload_n dX9_opponentOf_6 rfl rfl ?_
  refine J_callVr (As := [_]) dX9_opponentOf_7 ml_X9_403 cal_X9_isOne im_X9_isOne se_X9_isOne (w1.at 0 rfl) rfl rfl rfl (Nat.le_of_ble_eq_true rfl) ⟨by decide, by decide⟩ ⟨by decide, by decide⟩ (c_X9_isOne hst w1 w1N hn h12 _) ?_
  refine J_ifb_ne (tgt := 19) dX9_opponentOf_10 rfl (fun h10 => ?_) (fun h10 => ?_)
  · have kh10 : (okW (fS S P) w) := h10
    obtain ⟨ex10, ei10⟩ := kh10.i hn h12
    refine J_iconst (v := 0) dX9_opponentOf_19 (by decide) ?_
    refine J_istore_n (L' := [(2, _), (0, _), (1, _)]) dX9_opponentOf_20 rfl (by decide) rfl ?_
    have loop : ∀ i, i ≤ nb → ∀ (x : Int32) , (x = nI i) → (rivAt (S.2 11) (S.2 12) w (nb - i) i = rivAt (S.2 11) (S.2 12) w nb 0) → xx_J G l mX9_opponentOf 2 43 0 0 (rdA bm bp bn ba n vL M A (aOpp nb (fS S P) w)) 21 [(2, .int x), (0, .ref bm), (1, .int w)] [] A1 n 0 0 := by
      refine xx_dn ?_ ?_
      · intro x   hx hv
        have ex : x.toInt = nb := by rw [hx]; exact i_n (by omega)
        have eb : (S.1 1).toInt = nb := by rw [hb]; exact i_n (by omega)
        refine J_iload_n dX9_opponentOf_21 rfl rfl ?_
        refine J_aload_n dX9_opponentOf_22 rfl rfl ?_
        refine J_getf dX9_opponentOf_23 fl_X9_40 (w1.at 0 rfl) rfl ?_
        refine J_getf dX9_opponentOf_26 fl_X9_151 (w1S.at 0 rfl) rfl ?_
        refine J_icmp_ge (tgt := 84) dX9_opponentOf_29 rfl (fun h29 => ?_) (fun h29 => ?_)
        · refine J_aload_n dX9_opponentOf_84 rfl rfl ?_
          refine J_iconst (v := 2) dX9_opponentOf_85 (by decide) ?_
          refine J_callVw (As := [_]) dX9_opponentOf_86 ml_X9_393 cal_X9_no im_X9_no se_X9_no (w1.at 0 rfl) rfl rfl rfl (Nat.le_of_ble_eq_true rfl) ⟨by decide, by decide⟩ ⟨by decide, by decide⟩ (c_X9_no hst w1 _) (fun A22 hQ22 => ?_)
          skip
          refine J_ireturn dX9_opponentOf_89 rfl rfl (by decide) (by decide) ?_
          have e0 : rivAt (S.2 11) (S.2 12) w nb 0 = -1 := by rw [← hv, Nat.sub_self]; rfl
          have e1 : aOpp nb (fS S P) w = (2, 0) := by
            unfold aOpp
            rw [if_pos kh10]
            exact if_pos e0
          unfold rdA
          rw [e1]
          exact ⟨rfl, rfl, _, (mS.s0 (mS.s0 mS.rf)), rfl, hQ22.1, (s1.trans hQ22.2)⟩
        · first | (exfalso; simp only [i_lt, i_le, i_eq, i_0, i_1, i_2, i_3, i_4, i_5, i_6, i_8, i_9, i_10, i_12, i_16, i_20, i_m1, i_400, i_2000] at h29; omega) | (exfalso; simp only [s_up, a_up, va_up, i_lt, i_le, i_eq, i_0, i_1, i_2, i_3, i_4, i_5, i_6, i_8, i_9, i_10, i_12, i_16, i_20, i_m1, i_400, i_2000, ↓reduceIte, Nat.reduceEqDiff] at h29; omega)
      · intro i hii ih x   hx hv
        have ex : x.toInt = i := by rw [hx]; exact i_n (by omega)
        have eb : (S.1 1).toInt = nb := by rw [hb]; exact i_n (by omega)
        refine J_iload_n dX9_opponentOf_21 rfl rfl ?_
        refine J_aload_n dX9_opponentOf_22 rfl rfl ?_
        refine J_getf dX9_opponentOf_23 fl_X9_40 (w1.at 0 rfl) rfl ?_
        refine J_getf dX9_opponentOf_26 fl_X9_151 (w1S.at 0 rfl) rfl ?_
        refine J_icmp_ge (tgt := 84) dX9_opponentOf_29 rfl (fun h29 => ?_) (fun h29 => ?_)
        · first | (exfalso; simp only [i_lt, i_le, i_eq, i_0, i_1, i_2, i_3, i_4, i_5, i_6, i_8, i_9, i_10, i_12, i_16, i_20, i_m1, i_400, i_2000] at h29; omega) | (exfalso; simp only [s_up, a_up, va_up, i_lt, i_le, i_eq, i_0, i_1, i_2, i_3, i_4, i_5, i_6, i_8, i_9, i_10, i_12, i_16, i_20, i_m1, i_400, i_2000, ↓reduceIte, Nat.reduceEqDiff] at h29; omega)
        · refine J_aload_n dX9_opponentOf_32 rfl rfl ?_
          refine J_getf dX9_opponentOf_33 fl_X9_40 (w1.at 0 rfl) rfl ?_
          refine J_getf dX9_opponentOf_36 fl_X9_163 (w1S.at 0 rfl) rfl ?_
          refine J_iload_n dX9_opponentOf_39 rfl rfl ?_
          refine J_ialdN i dX9_opponentOf_40 (w1S.at 11 rfl) hx (by omega) (by decide) ?_
          refine J_iload_n dX9_opponentOf_41 rfl rfl ?_
          refine J_icmp_ne (tgt := 55) dX9_opponentOf_42 rfl (fun h42 => ?_) (fun h42 => ?_)
          · refine J_aload_n dX9_opponentOf_55 rfl rfl ?_
            refine J_getf dX9_opponentOf_56 fl_X9_40 (w1.at 0 rfl) rfl ?_
            refine J_getf dX9_opponentOf_59 fl_X9_166 (w1S.at 0 rfl) rfl ?_
            refine J_iload_n dX9_opponentOf_62 rfl rfl ?_
            refine J_ialdN i dX9_opponentOf_63 (w1S.at 12 rfl) hx (by omega) (by decide) ?_
            refine J_iload_n dX9_opponentOf_64 rfl rfl ?_
            refine J_icmp_ne (tgt := 78) dX9_opponentOf_65 rfl (fun h65 => ?_) (fun h65 => ?_)
            · refine J_iinc (v := _ + 1) (L' := [(2, _), (0, _), (1, _)]) dX9_opponentOf_78 rfl rfl (by decide) rfl ?_
              refine J_goto (tgt := 21) dX9_opponentOf_81 rfl ?_
              refine xx_J.pick [0, 1, 2] rfl ?_
              exact ih _  (by rw [hx]; exact nI_1 i) (by rw [← hv, rivAt_s hii, if_neg h42, if_neg h65])
            · refine J_aload_n dX9_opponentOf_68 rfl rfl ?_
              refine J_getf dX9_opponentOf_69 fl_X9_40 (w1.at 0 rfl) rfl ?_
              refine J_getf dX9_opponentOf_72 fl_X9_163 (w1S.at 0 rfl) rfl ?_
              refine J_iload_n dX9_opponentOf_75 rfl rfl ?_
              refine J_ialdN i dX9_opponentOf_76 (w1S.at 11 rfl) hx (by omega) (by decide) ?_
              refine J_ireturn dX9_opponentOf_77 rfl rfl (by decide) (by decide) ?_
              have e0 : rivAt (S.2 11) (S.2 12) w nb 0 = S.2 11 i := by rw [← hv, rivAt_s hii, if_neg h42, if_pos h65]
              obtain ⟨a1, a2, e4, a3, e5, a4, a5⟩ := hok.2.2.2.2.2.2.1 i hii
              have e2 : ¬ rivAt (S.2 11) (S.2 12) w nb 0 = -1 := by rw [e0, show S.2 11 i = nI a1 from e4]; exact nI_m1 (by omega)
              have e1 : aOpp nb (fS S P) w = (0, S.2 11 i) := by
                unfold aOpp
                rw [if_pos kh10]
                refine (if_neg e2).trans ?_
                rw [← e0]; rfl
              unfold rdA
              rw [e1]
              exact ⟨rfl, rfl, _, (mS.s0 mS.rf), rfl, w1, s1⟩
          · refine J_aload_n dX9_opponentOf_45 rfl rfl ?_
            refine J_getf dX9_opponentOf_46 fl_X9_40 (w1.at 0 rfl) rfl ?_
            refine J_getf dX9_opponentOf_49 fl_X9_166 (w1S.at 0 rfl) rfl ?_
            refine J_iload_n dX9_opponentOf_52 rfl rfl ?_
            refine J_ialdN i dX9_opponentOf_53 (w1S.at 12 rfl) hx (by omega) (by decide) ?_
            refine J_ireturn dX9_opponentOf_54 rfl rfl (by decide) (by decide) ?_
            have e0 : rivAt (S.2 11) (S.2 12) w nb 0 = S.2 12 i := by rw [← hv, rivAt_s hii, if_pos h42]
            obtain ⟨a1, a2, e4, a3, e5, a4, a5⟩ := hok.2.2.2.2.2.2.1 i hii
            have e2 : ¬ rivAt (S.2 11) (S.2 12) w nb 0 = -1 := by rw [e0, show S.2 12 i = nI a2 from e5]; exact nI_m1 (by omega)
            have e1 : aOpp nb (fS S P) w = (0, S.2 12 i) := by
              unfold aOpp
              rw [if_pos kh10]
              refine (if_neg e2).trans ?_
              rw [← e0]; rfl
            unfold rdA
            rw [e1]
            exact ⟨rfl, rfl, _, (mS.s0 mS.rf), rfl, w1, s1⟩
    refine xx_J.pick [0, 1, 2] rfl ?_
    exact loop 0 (by omega) _  rfl rfl
  · have kh10 : ¬ (okW (fS S P) w) := h10
    refine J_aload_n dX9_opponentOf_13 rfl rfl ?_
    refine J_iconst (v := 1) dX9_opponentOf_14 (by decide) ?_
    refine J_callVw (As := [_]) dX9_opponentOf_15 ml_X9_393 cal_X9_no im_X9_no se_X9_no (w1.at 0 rfl) rfl rfl rfl (Nat.le_of_ble_eq_true rfl) ⟨by decide, by decide⟩ ⟨by decide, by decide⟩ (c_X9_no hst w1 _) (fun A2 hQ2 => ?_)
    skip
    refine J_ireturn dX9_opponentOf_18 rfl rfl (by decide) (by decide) ?_
    have e1 : (aOpp nb (fS S P) w) = (1, 0) := by unfold aOpp; rw [if_neg kh10]
    unfold rdA
    rw [e1]
    exact ⟨rfl, rfl, _, (mS.s0 (mS.s0 mS.rf)), rfl, hQ2.1, (s1.trans hQ2.2)⟩
end XSO
