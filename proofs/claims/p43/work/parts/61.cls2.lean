/-! THE CLASS: its calls that change the tournament -/
section XCB
variable {G : xx_G} {l : Launch} {A A' : xx_H} {n b bf : Nat} {F FF R R' F2 PS : xS} {len i j k q s e t d nt tok v m nw nb r cr : Nat} {ru : xS → Nat → Nat → Int32}
theorem xx_w.s2w {b0 e0 b1 e1 c m : Nat} {cs : List (Nat × va_E)} (h : xx_w c cs A) (hs : xx_s2 b0 e0 b1 e1 A A') (hb : (cs.map Prod.fst).all (fun z => decide (z < m)) = true) (h0 : c + m ≤ b0 ∨ e0 ≤ c) (h1 : c + m ≤ b1 ∨ e1 ≤ c) : xx_w c cs A' := fun i z e he => by
  have hz := of_decide_eq_true (List.all_eq_true.mp hb z (List.mem_map.mpr ⟨_, List.mem_of_getElem? he, rfl⟩))
  rw [hs _ (by omega) (by omega)]
  exact h i z e he
theorem xx_s2.sm {b0 e0 b1 e1 b2 e2 : Nat} (hs : xx_s2 b0 e0 b1 e1 A A') (h0 : b2 ≤ b0 ∧ e0 ≤ e2) (h1 : b2 ≤ b1 ∧ e1 ≤ e2) : xx_same b2 e2 A A' := fun z hz => hs z (by omega) (by omega)
theorem sr_pX {ah be : Nat → Nat} {np : Nat} {rs : Int32} (h0 : PS.1 0 = nI np) (h2 : PS.1 2 = rs) : startRoundF F PS ah be np = startRoundF F (pX np rs) ah be np := by
  unfold startRoundF
  rw [h2, show sr_0 F PS = sr_0 F (pX np rs) by show s_up (s_up F 1 (F.1 1 + 1)) 5 (PS.1 0) = _; rw [h0]; rfl]
  rfl
/-- behind find and startRound -/
theorem rnd_x {mp o : Nat → Int32} {ls : List Nat} (hor : ordOf (f_R F nw) nw o ls) (hf : fnd F ls nw PS (fd_k F ls nw / 2)) (hok : okF F nw nb r) (hc : canB F nw nb = true) : prd PS (p1F F nw) (p2F F nw) (npF F nw) nw ∧ (PS.1 2 = -1 ∨ ∃ r, r < nw ∧ PS.1 2 = nI r) ∧ eqF nw (npF F nw) (startRoundF (a_up (a_up F 8 mp) 7 o) PS (p1F F nw) (p2F F nw) (npF F nw)) (roundF F nw) := by
  have hl := lsF_eq (F := F) ⟨hor.1, hor.2.1⟩
  subst hl
  obtain ⟨f0, f1, f2, f3⟩ := hf
  obtain ⟨p1, p2⟩ := prs_ok (F := F) hok.1.2
  have h2 : PS.1 2 = rsF F nw := f2
  refine ⟨⟨f0, p1.1, fun i hi => ⟨(f3 i hi).1, (p1.2 i hi).1, (f3 i hi).2, (p1.2 i hi).2.1⟩⟩, by rw [h2]; exact p2, ?_⟩
  rw [sr_pX (show PS.1 0 = nI (npF F nw) from f0) h2]
  exact (eqF.o78 (nb := nb)).round hok.1.2 p1 p2
set_option maxHeartbeats 1000000 in
theorem c_X6_pairRound (hst : l.stackTraces = false) (hX : xx_w b (layX b) A) (hG : gI b ru cr nw nb r FF A)  : xx_C G l yX6_pairRound mX6_pairRound 31 726 1 6 [.ref b] A n (xQ (exA eIS) (aPair nw nb FF) n (fun A' => (∃ r', gI b ru cr nw (nPair nw nb FF) r' (sPair nw nb FF) A') ∧ xx_same (b + 16) (b + 46) A A')) := by
  obtain ⟨R, F, F2, PS, hR, hF, hF2, hP, hru, he, hok⟩ := hG
  have hn : F.1 0 = nI nw := hok.1.1
  have h12 := hok.1.2
  have hb : F.1 5 = nI nb := hok.2.1.1
  have h6 := hok.2.1.2
  refine J_C hst (by decide +kernel) rfl rfl rfl (Nat.le_of_ble_eq_true rfl) ?_
  show xx_J _ _ _ _ _ _ _ _ 0 [(0, _)] [] _ _ _ _
  refine J_aload_n dX6_pairRound_0 rfl rfl ?_
  refine J_callV (As := []) dX6_pairRound_1 ml_X6_169 cal_X6_needPairable im_X6_needPairable se_X6_needPairable (hX.at 0 rfl) rfl rfl rfl (Nat.le_of_ble_eq_true rfl) ⟨by decide, by decide⟩ ⟨by decide, by decide⟩ (c_X6_needPairable hst hX hF hn h12 hb h6) (fun E1 A1 n1 _ hQ1 => ?_) (fun v1 A1 n1 _ hQ1 => ?_)
  · obtain ⟨en1, eA1, eE1, hc1⟩ := nQ_x hQ1
    subst en1; subst eA1; subst eE1
    refine JX_out rfl (by decide) (by decide) ?_
    have e0 : aPair nw nb F = aPair nw nb FF := aPair_c he hok
    have e1 : aPair nw nb F = (1, 0) := by unfold aPair; rw [if_neg hc1]
    have e2 : sPair nw nb FF = FF := if_neg (fun z => hc1 ((can_c he).mpr z))
    have e3 : nPair nw nb FF = nb := if_neg (fun z => hc1 ((can_c he).mpr z))
    rw [e2, e3]
    exact ⟨rfl, by rw [← e0, e1]; exact (ansR_k (ex := exA eIS) (c := 1) (by decide)).symm, ⟨r, ⟨_, _, _, _, hR, hF, hF2, hP, hru, he, hok⟩⟩, (xx_same.rf (b := b + 16) (e := b + 46))⟩
  · obtain ⟨en1, eA1, eE1, hc1⟩ := nQ_v hQ1
    subst en1; subst eA1; subst eE1
    skip
    refine J_aload_n dX6_pairRound_4 rfl rfl ?_
    refine J_getf dX6_pairRound_5 fl_X6_41 (hX.at 0 rfl) rfl ?_
    refine J_aload_n dX6_pairRound_8 rfl rfl ?_
    refine J_getf dX6_pairRound_9 fl_X6_31 (hX.at 0 rfl) rfl ?_
    refine J_callVw (As := [_]) dX6_pairRound_12 ml_X6_172 cal_X1_find im_X1_find se_X1_find (hP.at 0 rfl) rfl rfl rfl (Nat.le_of_ble_eq_true rfl) ⟨by decide, by decide⟩ ⟨by decide, by decide⟩ (c_X1_find hst hP hF (by omega) hn h12) (fun A2 hQ2 => ?_)
    obtain ⟨PS2, mp2, o2, ls2, ⟨hor2, hfn2⟩, wP2, wF2, sP2⟩ := hQ2
    have w2X := hX.s2w sP2 (m := 1) rfl (by omega) (by omega)
    have w2R2 := hR.s2w sP2 (m := 6) rfl (by omega) (by omega)
    have w2F2 := hF2.s2w sP2 (m := 9) rfl (by omega) (by omega)
    have rx2 := rnd_x (mp := mp2) hor2 hfn2 hok hc1
    refine J_aload_n dX6_pairRound_15 rfl rfl ?_
    refine J_getf dX6_pairRound_16 fl_X6_31 (w2X.at 0 rfl) rfl ?_
    refine J_aload_n dX6_pairRound_19 rfl rfl ?_
    refine J_getf dX6_pairRound_20 fl_X6_41 (w2X.at 0 rfl) rfl ?_
    refine J_callVw (As := [_]) dX6_pairRound_23 ml_X6_176 cal_X0_startRound im_X0_startRound se_X0_startRound (wF2.at 0 rfl) rfl rfl rfl (Nat.le_of_ble_eq_true rfl) ⟨by decide, by decide⟩ ⟨by decide, by decide⟩ (c_X0_startRound hst wF2 wP2 (by omega) hn h12 rx2.1 rx2.2.1) (fun A3 hQ3 => ?_)
    have w3X := w2X.s2 hQ3.2 (m := 1) rfl (by omega)
    have w3R2 := w2R2.s2 hQ3.2 (m := 6) rfl (by omega)
    have w3F2 := w2F2.s2 hQ3.2 (m := 9) rfl (by omega)
    have w3P := wP2.s2 hQ3.2 (m := 6) rfl (by omega)
    have hoks : okF (startRoundF (a_up (a_up F 8 mp2) 7 o2) PS2 (p1F F nw) (p2F F nw) (npF F nw)) nw (npF F nw) (r + 1) := rx2.2.2.symm.ok (hok.rnd hc1).2.2.2
    refine J_aload_n dX6_pairRound_26 rfl rfl ?_
    refine J_getf dX6_pairRound_27 fl_X6_31 (w3X.at 0 rfl) rfl ?_
    refine J_getf dX6_pairRound_30 fl_X6_103 (hQ3.1.at 0 rfl) rfl ?_
    refine J_ireturn dX6_pairRound_33 rfl rfl (by decide) (by decide) ?_
    have e0 : aPair nw nb F = aPair nw nb FF := aPair_c he hok
    have e1 : aPair nw nb F = (0, nI (npF F nw)) := by unfold aPair; rw [if_pos hc1]
    have e2 : sPair nw nb FF = roundF FF nw := if_pos ((can_c he).mp hc1)
    have e3 : nPair nw nb FF = npF F nw := (if_pos ((can_c he).mp hc1)).trans (he.pairs (hok.rnd hc1).2.2.1).1.symm
    rw [e2, e3]
    exact ⟨rfl, by rw [← e0, e1, ansR_0]; exact congrArg (fun z => Sum.inl (some (Value.int z))) hoks.2.1.1, ⟨r + 1, ⟨_, _, _, _, w3R2, hQ3.1, w3F2, w3P, hru, (rx2.2.2.trans (rnd_c he hok hc1)), hoks⟩⟩, (((xx_same.rf (b := b + 16) (e := b + 46)).trans (sP2.sm (by omega) (by omega))).trans (hQ3.2.wide (by omega) (by omega)))⟩
set_option maxHeartbeats 1000000 in
theorem c_X6_tell (hst : l.stackTraces = false) (hX : xx_w b (layX b) A) (hG : gI b ru cr nw nb r FF A) (w v : Int32) : xx_C G l yX6_tell mX6_tell 7 112 2 12 [.ref b, .int w, .int v] A n (xQ (exC eIO eIA eIS) (aTell nb FF w v) n (fun A' => gI b ru cr nw nb r (sTell FF w v) A' ∧ xx_same (b + 16) (b + 46) A A')) := by
  obtain ⟨R, F, F2, PS, hR, hF, hF2, hP, hru, he, hok⟩ := hG
  have hn : F.1 0 = nI nw := hok.1.1
  have h12 := hok.1.2
  have hb : F.1 5 = nI nb := hok.2.1.1
  have h6 := hok.2.1.2
  refine J_C hst (by decide +kernel) rfl rfl rfl (Nat.le_of_ble_eq_true rfl) ?_
  show xx_J _ _ _ _ _ _ _ _ 0 [(0, _), (1, _), (2, _)] [] _ _ _ _
  refine J_aload_n dX6_tell_0 rfl rfl ?_
  refine J_iload_n dX6_tell_1 rfl rfl ?_
  refine J_callV (As := [_]) dX6_tell_2 ml_X6_141 cal_X6_needBout im_X6_needBout se_X6_needBout (hX.at 0 rfl) rfl rfl rfl (Nat.le_of_ble_eq_true rfl) ⟨by decide, by decide⟩ ⟨by decide, by decide⟩ (c_X6_needBout hst hX hF w) (fun E1 A1 n1 _ hQ1 => ?_) (fun v1 A1 n1 _ hQ1 => ?_)
  · obtain ⟨en1, eA1, eE1, hc1⟩ := nQ_x hQ1
    subst en1; subst eA1; subst eE1
    refine JX_out rfl (by decide) (by decide) ?_
    have e0 : (aTell nb F w v) = (aTell nb FF w v) := aTell_c he hok
    have e1 : (aTell nb F w v) = (1, 0) := by unfold aTell; rw [if_neg hc1]
    have e2 : sTell F w v = F := by unfold sTell; rw [if_neg hc1]
    have e3 := sTell_c (w := w) (v := v) he hok
    rw [e2] at e3
    exact ⟨rfl, by rw [← e0, e1]; exact (ansR_k (ex := exC eIO eIA eIS) (c := 1) (by decide)).symm, ⟨_, _, _, _, hR, hF, hF2, hP, hru, e3, hok⟩, (xx_same.rf (b := b + 16) (e := b + 46))⟩
  · obtain ⟨en1, eA1, eE1, hc1⟩ := nQ_v hQ1
    subst en1; subst eA1; subst eE1
    obtain ⟨ex1, ei1⟩ := hc1.i hb h6
    obtain ⟨i, j, e4, hi, e5, hj, eij⟩ := hok.2.2.2.2.2.2.1 _ ei1
    refine J_iload_n dX6_tell_5 rfl rfl ?_
    refine J_if_lt (tgt := 14) dX6_tell_6 rfl (fun h6x => ?_) (fun h6x => ?_)
    · refine J_throw (text := "no such outcome") hst dX6_tell_14 dX6_tell_17 dX6_tell_18 dX6_tell_20 dX6_tell_23 (by decide) cl_X6_62 in_java_lang_IllegalArgumentException th3_X6_66 th4_X6_66 (by decide +kernel) rfl ⟨by decide, by decide⟩ (by decide) (by decide) ?_
      have e0 : (aTell nb F w v) = (aTell nb FF w v) := aTell_c he hok
      have e1 : (aTell nb F w v) = (2, 0) := by unfold aTell; rw [if_pos hc1, if_neg (show ¬ (0 ≤ v ∧ v ≤ 2) from fun z => absurd z.1 (Int32.not_le.mpr h6x))]
      have e2 : sTell F w v = F := by unfold sTell; rw [if_pos hc1, if_neg (show ¬ (0 ≤ v ∧ v ≤ 2) from fun z => absurd z.1 (Int32.not_le.mpr h6x))]
      have e3 := sTell_c (w := w) (v := v) he hok
      rw [e2] at e3
      exact ⟨rfl, by rw [← e0, e1]; exact (ansR_k (ex := exC eIO eIA eIS) (c := 2) (by decide)).symm, ⟨_, _, _, _, hR, hF, hF2, hP, hru, e3, hok⟩, (xx_same.rf (b := b + 16) (e := b + 46))⟩
    · refine J_iload_n dX6_tell_9 rfl rfl ?_
      refine J_iconst (v := 2) dX6_tell_10 (by decide) ?_
      refine J_icmp_le (tgt := 24) dX6_tell_11 rfl (fun h11 => ?_) (fun h11 => ?_)
      · have hvr : (0 ≤ v ∧ v ≤ 2) := ⟨Int32.not_lt.mp h6x, h11⟩
        have hv3 := v012 hvr
        refine J_aload_n dX6_tell_24 rfl rfl ?_
        refine J_getf dX6_tell_25 fl_X6_31 (hX.at 0 rfl) rfl ?_
        refine J_iload_n dX6_tell_28 rfl rfl ?_
        refine J_callVr (As := [_]) dX6_tell_29 ml_X6_150 cal_X0_outcomeIn im_X0_outcomeIn se_X0_outcomeIn (hF.at 0 rfl) rfl rfl rfl (Nat.le_of_ble_eq_true rfl) ⟨by decide, by decide⟩ ⟨by decide, by decide⟩ (c_X0_outcomeIn hst hF hb h6 ex1 ei1) ?_
        refine J_iconst (v := -1) dX6_tell_32 (by decide) ?_
        refine J_icmp_eq (tgt := 46) dX6_tell_33 rfl (fun h33 => ?_) (fun h33 => ?_)
        · refine J_aload_n dX6_tell_46 rfl rfl ?_
          refine J_getf dX6_tell_47 fl_X6_31 (hX.at 0 rfl) rfl ?_
          refine J_iload_n dX6_tell_50 rfl rfl ?_
          refine J_iload_n dX6_tell_51 rfl rfl ?_
          refine J_callVw (As := [_, _]) dX6_tell_52 ml_X6_184 cal_X0_tellOutcome im_X0_tellOutcome se_X0_tellOutcome (hF.at 0 rfl) rfl rfl rfl (Nat.le_of_ble_eq_true rfl) ⟨by decide, by decide⟩ ⟨by decide, by decide⟩ (c_X0_tellOutcome hst hF hn h12 hb h6 ex1 ei1 e4 hi e5 hj hv3) (fun A2 hQ2 => ?_)
          have w2F2 := hF2.s2 hQ2.2 (m := 9) rfl (by omega)
          have w2P := hP.s2 hQ2.2 (m := 6) rfl (by omega)
          have w2R2 := hR.s2 hQ2.2 (m := 6) rfl (by omega)
          have w2X := hX.s2 hQ2.2 (m := 1) rfl (by omega)
          have hFt : xx_w (b + 22) (layF (b + 22) (tlB F w v)) A2 := by
            show xx_w (b + 22) (layF (b + 22) (tellF F (wi w) (wi (F.2 4 (wi w))) (wi (F.2 5 (wi w))) v)) A2
            rw [e4, e5, wi_nI (by omega), wi_nI (by omega)]
            exact hQ2.1
          have hokt : okF (tlB F w v) nw nb r := tlB_ok hok hc1 hvr h33
          refine J_aload_n dX6_tell_55 rfl rfl ?_
          refine J_getf dX6_tell_56 fl_X6_31 (w2X.at 0 rfl) rfl ?_
          refine J_callVr (As := []) dX6_tell_59 ml_X6_106 cal_X0_countOpen im_X0_countOpen se_X0_countOpen (hFt.at 0 rfl) rfl rfl rfl (Nat.le_of_ble_eq_true rfl) ⟨by decide, by decide⟩ ⟨by decide, by decide⟩ (c_X0_countOpen hst hFt hokt.2.1.1 h6) ?_
          refine J_ireturn dX6_tell_62 rfl rfl (by decide) (by decide) ?_
          have e0 : (aTell nb F w v) = (aTell nb FF w v) := aTell_c he hok
          have e1 : (aTell nb F w v) = (0, bx_sum (opn ((tlB F w v).2 6)) nb) := by unfold aTell; rw [if_pos hc1, if_pos hvr, if_pos (show F.2 6 (wi w) = -1 from h33)]
          have e2 : sTell F w v = tlB F w v := by unfold sTell; rw [if_pos hc1, if_pos hvr, if_pos (show F.2 6 (wi w) = -1 from h33)]
          have e3 := sTell_c (w := w) (v := v) he hok
          rw [e2] at e3
          exact ⟨rfl, by rw [← e0, e1]; exact ansR_0.symm, ⟨_, _, _, _, w2R2, hFt, w2F2, w2P, hru, e3, hokt⟩, ((xx_same.rf (b := b + 16) (e := b + 46)).trans (hQ2.2.wide (by omega) (by omega)))⟩
        · refine J_throw (text := "the bout has an outcome") hst dX6_tell_36 dX6_tell_39 dX6_tell_40 dX6_tell_42 dX6_tell_45 (by decide) cl_X6_51 in_java_lang_IllegalStateException th3_X6_55 th4_X6_55 (by decide +kernel) rfl ⟨by decide, by decide⟩ (by decide) (by decide) ?_
          have e0 : (aTell nb F w v) = (aTell nb FF w v) := aTell_c he hok
          have e1 : (aTell nb F w v) = (3, 0) := by unfold aTell; rw [if_pos hc1, if_pos hvr, if_neg (show ¬ F.2 6 (wi w) = -1 from h33)]
          have e2 : sTell F w v = F := by unfold sTell; rw [if_pos hc1, if_pos hvr, if_neg (show ¬ F.2 6 (wi w) = -1 from h33)]
          have e3 := sTell_c (w := w) (v := v) he hok
          rw [e2] at e3
          exact ⟨rfl, by rw [← e0, e1]; exact (ansR_k (ex := exC eIO eIA eIS) (c := 3) (by decide)).symm, ⟨_, _, _, _, hR, hF, hF2, hP, hru, e3, hok⟩, (xx_same.rf (b := b + 16) (e := b + 46))⟩
      · refine J_throw (text := "no such outcome") hst dX6_tell_14 dX6_tell_17 dX6_tell_18 dX6_tell_20 dX6_tell_23 (by decide) cl_X6_62 in_java_lang_IllegalArgumentException th3_X6_66 th4_X6_66 (by decide +kernel) rfl ⟨by decide, by decide⟩ (by decide) (by decide) ?_
        have e0 : (aTell nb F w v) = (aTell nb FF w v) := aTell_c he hok
        have e1 : (aTell nb F w v) = (2, 0) := by unfold aTell; rw [if_pos hc1, if_neg (show ¬ (0 ≤ v ∧ v ≤ 2) from fun z => h11 z.2)]
        have e2 : sTell F w v = F := by unfold sTell; rw [if_pos hc1, if_neg (show ¬ (0 ≤ v ∧ v ≤ 2) from fun z => h11 z.2)]
        have e3 := sTell_c (w := w) (v := v) he hok
        rw [e2] at e3
        exact ⟨rfl, by rw [← e0, e1]; exact (ansR_k (ex := exC eIO eIA eIS) (c := 2) (by decide)).symm, ⟨_, _, _, _, hR, hF, hF2, hP, hru, e3, hok⟩, (xx_same.rf (b := b + 16) (e := b + 46))⟩
set_option maxHeartbeats 1000000 in
theorem c_X6_turnIn (hst : l.stackTraces = false) (hX : xx_w b (layX b) A) (hG : gI b ru cr nw nb r FF A) (w : Int32) : xx_C G l yX6_turnIn mX6_turnIn 7 111 1 6 [.ref b, .int w] A n (xQ (exA eIO) (aTurn FF w) n (fun A' => gI b ru cr nw nb r (sTurn FF w) A' ∧ xx_same (b + 16) (b + 46) A A')) := by
  obtain ⟨R, F, F2, PS, hR, hF, hF2, hP, hru, he, hok⟩ := hG
  have hn : F.1 0 = nI nw := hok.1.1
  have h12 := hok.1.2
  have hb : F.1 5 = nI nb := hok.2.1.1
  have h6 := hok.2.1.2
  refine J_C hst (by decide +kernel) rfl rfl rfl (Nat.le_of_ble_eq_true rfl) ?_
  show xx_J _ _ _ _ _ _ _ _ 0 [(0, _), (1, _)] [] _ _ _ _
  refine J_aload_n dX6_turnIn_0 rfl rfl ?_
  refine J_iload_n dX6_turnIn_1 rfl rfl ?_
  refine J_callV (As := [_]) dX6_turnIn_2 ml_X6_109 cal_X6_needWrestler im_X6_needWrestler se_X6_needWrestler (hX.at 0 rfl) rfl rfl rfl (Nat.le_of_ble_eq_true rfl) ⟨by decide, by decide⟩ ⟨by decide, by decide⟩ (c_X6_needWrestler hst hX hF w) (fun E1 A1 n1 _ hQ1 => ?_) (fun v1 A1 n1 _ hQ1 => ?_)
  · obtain ⟨en1, eA1, eE1, hc1⟩ := nQ_x hQ1
    subst en1; subst eA1; subst eE1
    refine JX_out rfl (by decide) (by decide) ?_
    have e0 : (aTurn F w) = (aTurn FF w) := aTurn_c he hok
    have e1 : (aTurn F w) = (1, 0) := by unfold aTurn; rw [if_neg hc1]
    have e2 : sTurn F w = F := by unfold sTurn; rw [if_neg hc1]
    have e3 := sTurn_c (w := w) he hok
    rw [e2] at e3
    exact ⟨rfl, by rw [← e0, e1]; exact (ansR_k (ex := exA eIO) (c := 1) (by decide)).symm, ⟨_, _, _, _, hR, hF, hF2, hP, hru, e3, hok⟩, (xx_same.rf (b := b + 16) (e := b + 46))⟩
  · obtain ⟨en1, eA1, eE1, hc1⟩ := nQ_v hQ1
    subst en1; subst eA1; subst eE1
    obtain ⟨ex1, ei1⟩ := hc1.i hn h12
    refine J_aload_n dX6_turnIn_5 rfl rfl ?_
    refine J_getf dX6_turnIn_6 fl_X6_31 (hX.at 0 rfl) rfl ?_
    refine J_bipush (v := 8) dX6_turnIn_9 (by decide) ?_
    refine J_iload_n dX6_turnIn_11 rfl rfl ?_
    refine J_iconst (v := 1) dX6_turnIn_12 (by decide) ?_
    refine J_aload_n dX6_turnIn_13 rfl rfl ?_
    refine J_getf dX6_turnIn_14 fl_X6_31 (hX.at 0 rfl) rfl ?_
    refine J_bipush (v := 8) dX6_turnIn_17 (by decide) ?_
    refine J_iload_n dX6_turnIn_19 rfl rfl ?_
    refine J_callVr (As := [_, _]) dX6_turnIn_20 ml_X6_112 cal_X0_of im_X0_of se_X0_of (hF.at 0 rfl) rfl rfl rfl (Nat.le_of_ble_eq_true rfl) ⟨by decide, by decide⟩ ⟨by decide, by decide⟩ (c_X0_of hst hF hn h12 (q := 8) rfl (by decide) ex1 ei1) ?_
    refine J_isub dX6_turnIn_23 ?_
    refine J_callVw (As := [_, _, _]) dX6_turnIn_24 ml_X6_194 cal_X0_set im_X0_set se_X0_set (hF.at 0 rfl) rfl rfl rfl (Nat.le_of_ble_eq_true rfl) ⟨by decide, by decide⟩ ⟨by decide, by decide⟩ (c_X0_set hst hF hn h12 (q := 8) rfl (by decide) ex1 ei1 _) (fun A2 hQ2 => ?_)
    have w2F2 := hF2.s2 hQ2.2 (m := 9) rfl (by omega)
    have w2P := hP.s2 hQ2.2 (m := 6) rfl (by omega)
    have w2R2 := hR.s2 hQ2.2 (m := 6) rfl (by omega)
    have w2X := hX.s2 hQ2.2 (m := 1) rfl (by omega)
    refine J_aload_n dX6_turnIn_27 rfl rfl ?_
    refine J_getf dX6_turnIn_28 fl_X6_31 (w2X.at 0 rfl) rfl ?_
    refine J_bipush (v := 8) dX6_turnIn_31 (by decide) ?_
    refine J_iload_n dX6_turnIn_33 rfl rfl ?_
    refine J_callVr (As := [_, _]) dX6_turnIn_34 ml_X6_112 cal_X0_of im_X0_of se_X0_of (hQ2.1.at 0 rfl) rfl rfl rfl (Nat.le_of_ble_eq_true rfl) ⟨by decide, by decide⟩ ⟨by decide, by decide⟩ (c_X0_of hst hQ2.1 (nw := nw) hn h12 (q := 8) rfl (by decide) ex1 ei1) ?_
    refine J_if_eq (tgt := 44) dX6_turnIn_37 rfl (fun h37 => ?_) (fun h37 => ?_)
    · refine J_iconst (v := 0) dX6_turnIn_44 (by decide) ?_
      refine J_ireturn dX6_turnIn_45 rfl rfl (by decide) (by decide) ?_
      have e0 : (aTurn F w) = (aTurn FF w) := aTurn_c he hok
      have e1 : (aTurn F w) = (0, xx_b (¬ 1 - F.2 2 (8 * 12 + wi w) = 0)) := by unfold aTurn; rw [if_pos hc1]
      have e9 : (tuF F w).2 2 (8 * 12 + wi w) = 1 - F.2 2 (8 * 12 + wi w) := if_pos rfl
      have e8 : 1 - F.2 2 (8 * 12 + wi w) = 0 := by rw [← e9]; exact h37
      rw [xx_bf (fun z => z e8)] at e1
      have e2 : sTurn F w = tuF F w := by unfold sTurn; rw [if_pos hc1]
      have e3 := sTurn_c (w := w) he hok
      rw [e2] at e3
      exact ⟨rfl, by rw [← e0, e1]; exact ansR_0.symm, ⟨_, _, _, _, w2R2, hQ2.1, w2F2, w2P, hru, e3, tuF_ok hok ei1⟩, ((xx_same.rf (b := b + 16) (e := b + 46)).trans (hQ2.2.wide (by omega) (by omega)))⟩
    · refine J_iconst (v := 1) dX6_turnIn_40 (by decide) ?_
      refine J_goto (tgt := 45) dX6_turnIn_41 rfl ?_
      refine J_ireturn dX6_turnIn_45 rfl rfl (by decide) (by decide) ?_
      have e0 : (aTurn F w) = (aTurn FF w) := aTurn_c he hok
      have e1 : (aTurn F w) = (0, xx_b (¬ 1 - F.2 2 (8 * 12 + wi w) = 0)) := by unfold aTurn; rw [if_pos hc1]
      have e9 : (tuF F w).2 2 (8 * 12 + wi w) = 1 - F.2 2 (8 * 12 + wi w) := if_pos rfl
      have e8 : ¬ 1 - F.2 2 (8 * 12 + wi w) = 0 := by rw [← e9]; exact h37
      rw [xx_bt e8] at e1
      have e2 : sTurn F w = tuF F w := by unfold sTurn; rw [if_pos hc1]
      have e3 := sTurn_c (w := w) he hok
      rw [e2] at e3
      exact ⟨rfl, by rw [← e0, e1]; exact ansR_0.symm, ⟨_, _, _, _, w2R2, hQ2.1, w2F2, w2P, hru, e3, tuF_ok hok ei1⟩, ((xx_same.rf (b := b + 16) (e := b + 46)).trans (hQ2.2.wide (by omega) (by omega)))⟩
set_option maxHeartbeats 2000000 in
theorem c_X6_tellOpenBouts (hst : l.stackTraces = false) (hX : xx_w b (layX b) A) (hR : xx_w (b + 16) (layR (b + 16) R) A) (hF : xx_w bf (layF bf F) A) (hd : b + 22 ≤ bf) (hru : ruX R ru cr) (hrv : ∀ F i j, ru F i j = 0 ∨ ru F i j = 1 ∨ ru F i j = 2) (hn : F.1 0 = nI nw) (h12 : nw ≤ 12) (hb : F.1 5 = nI nb) (h6 : nb ≤ 6) (hbd : bdV F nw nb) : xx_C G l yX6_tellOpenBouts mX6_tellOpenBouts 5 119 0 0 [.ref b, .ref bf] A n (xx_wr (some (.int (tlP ru nb 0 F 0).2)) n (fun A' => ∃ R', ruX R' ru cr ∧ xx_w (b + 16) (layR (b + 16) R') A' ∧ xx_w bf (layF bf (tlP ru nb 0 F 0).1) A' ∧ xx_s2 (b + 16) (b + 22) bf (bf + 9) A A')) := by
  refine J_C hst (by decide +kernel) rfl rfl rfl (Nat.le_of_ble_eq_true rfl) ?_
  show xx_J _ _ _ _ _ _ _ _ 0 [(0, _), (1, _)] [] _ _ _ _
  refine J_iconst (v := 0) dX6_tellOpenBouts_0 (by decide) ?_
  refine J_istore_n (L' := [(2, _), (0, _), (1, _)]) dX6_tellOpenBouts_1 rfl (by decide) rfl ?_
  refine J_iconst (v := 0) dX6_tellOpenBouts_2 (by decide) ?_
  refine J_istore_n (L' := [(3, _), (2, _), (0, _), (1, _)]) dX6_tellOpenBouts_3 rfl (by decide) rfl ?_
  have loop : ∀ k, k ≤ nb → ∀ (x c : Int32) (A1 : xx_H) (R1 F1 : xS), (x = nI k) → (xx_w b (layX b) A1) → (xx_w (b + 16) (layR (b + 16) R1) A1) → (xx_w bf (layF bf F1) A1) → (xx_s2 (b + 16) (b + 22) bf (bf + 9) A A1) → (ruX R1 ru cr) → (tlP ru (nb - k) k F1 c = (tlP ru nb 0 F 0)) → (bdV F1 nw nb) → (F1.1 = F.1) → xx_J G l mX6_tellOpenBouts 5 119 0 0 (xx_wr (some (.int (tlP ru nb 0 F 0).2)) n (fun A' => ∃ R', ruX R' ru cr ∧ xx_w (b + 16) (layR (b + 16) R') A' ∧ xx_w bf (layF bf (tlP ru nb 0 F 0).1) A' ∧ xx_s2 (b + 16) (b + 22) bf (bf + 9) A A')) 4 [(3, .int x), (2, .int c), (0, .ref b), (1, .ref bf)] [] A1 n 0 0 := by
    refine xx_dn ?_ ?_
    · intro x c  A1  R1 F1  hx hX1 hR1 hF1 hs1 hru1 hv hbd1 hi1
      have hnb1 : F1.1 5 = nI nb := by rw [hi1]; exact hb
      have ex : x.toInt = nb := by rw [hx]; exact i_n (by omega)
      have eb : (F1.1 5).toInt = nb := by rw [hnb1]; exact i_n (by omega)
      refine J_iload_n dX6_tellOpenBouts_4 rfl rfl ?_
      refine J_aload_n dX6_tellOpenBouts_5 rfl rfl ?_
      refine J_getf dX6_tellOpenBouts_6 fl_X6_103 (hF1.at 0 rfl) rfl ?_
      refine J_icmp_ge (tgt := 58) dX6_tellOpenBouts_9 rfl (fun h9 => ?_) (fun h9 => ?_)
      · refine J_iload_n dX6_tellOpenBouts_58 rfl rfl ?_
        refine J_ireturn dX6_tellOpenBouts_59 rfl rfl (by decide) (by decide) ?_
        have hv2 : (F1, c) = (tlP ru nb 0 F 0) := by rw [← hv, Nat.sub_self]; rfl
        exact ⟨by rw [← hv2], rfl, R1, hru1, hR1, by rw [← hv2]; exact hF1, hs1⟩
      · first | (exfalso; simp only [i_lt, i_le, i_eq, i_0, i_1, i_2, i_3, i_4, i_5, i_6, i_8, i_9, i_10, i_12, i_16, i_20, i_m1, i_400, i_2000] at h9; omega) | (exfalso; simp only [s_up, a_up, va_up, i_lt, i_le, i_eq, i_0, i_1, i_2, i_3, i_4, i_5, i_6, i_8, i_9, i_10, i_12, i_16, i_20, i_m1, i_400, i_2000, ↓reduceIte, Nat.reduceEqDiff] at h9; omega)
    · intro k hik ih x c  A1  R1 F1  hx hX1 hR1 hF1 hs1 hru1 hv hbd1 hi1
      have hnb1 : F1.1 5 = nI nb := by rw [hi1]; exact hb
      have hnw1 : F1.1 0 = nI nw := by rw [hi1]; exact hn
      have ex : x.toInt = k := by rw [hx]; exact i_n (by omega)
      have eb : (F1.1 5).toInt = nb := by rw [hnb1]; exact i_n (by omega)
      obtain ⟨i, j, e4, hi, e5, hj, eij⟩ := hbd1 k hik
      obtain ⟨en, mt, hmt, hro, hrl⟩ := id hru1
      refine J_iload_n dX6_tellOpenBouts_4 rfl rfl ?_
      refine J_aload_n dX6_tellOpenBouts_5 rfl rfl ?_
      refine J_getf dX6_tellOpenBouts_6 fl_X6_103 (hF1.at 0 rfl) rfl ?_
      refine J_icmp_ge (tgt := 58) dX6_tellOpenBouts_9 rfl (fun h9 => ?_) (fun h9 => ?_)
      · first | (exfalso; simp only [i_lt, i_le, i_eq, i_0, i_1, i_2, i_3, i_4, i_5, i_6, i_8, i_9, i_10, i_12, i_16, i_20, i_m1, i_400, i_2000] at h9; omega) | (exfalso; simp only [s_up, a_up, va_up, i_lt, i_le, i_eq, i_0, i_1, i_2, i_3, i_4, i_5, i_6, i_8, i_9, i_10, i_12, i_16, i_20, i_m1, i_400, i_2000, ↓reduceIte, Nat.reduceEqDiff] at h9; omega)
      · refine J_aload_n dX6_tellOpenBouts_12 rfl rfl ?_
        refine J_iload_n dX6_tellOpenBouts_13 rfl rfl ?_
        refine J_callVr (As := [_]) dX6_tellOpenBouts_14 ml_X6_150 cal_X0_outcomeIn im_X0_outcomeIn se_X0_outcomeIn (hF1.at 0 rfl) rfl rfl rfl (Nat.le_of_ble_eq_true rfl) ⟨by decide, by decide⟩ ⟨by decide, by decide⟩ (c_X0_outcomeIn hst hF1 hnb1 h6 hx hik) ?_
        refine J_iconst (v := -1) dX6_tellOpenBouts_17 (by decide) ?_
        refine J_icmp_ne (tgt := 52) dX6_tellOpenBouts_18 rfl (fun h18 => ?_) (fun h18 => ?_)
        · refine J_iinc (v := _ + 1) (L' := [(3, _), (2, _), (0, _), (1, _)]) dX6_tellOpenBouts_52 rfl rfl (by decide) rfl ?_
          refine J_goto (tgt := 4) dX6_tellOpenBouts_55 rfl ?_
          refine xx_J.pick [0, 1, 2, 3] rfl ?_
          exact ih _ _ _ _ _ (by rw [hx]; exact nI_1 k) hX1 hR1 hF1 hs1 hru1 (by rw [← hv, tlP_s hik, if_neg h18]) hbd1 hi1
        · refine J_aload_n dX6_tellOpenBouts_21 rfl rfl ?_
          refine J_getf dX6_tellOpenBouts_22 fl_X6_24 (hX1.at 0 rfl) rfl ?_
          refine J_aload_n dX6_tellOpenBouts_25 rfl rfl ?_
          refine J_iload_n dX6_tellOpenBouts_26 rfl rfl ?_
          refine J_callVw (As := [_, _]) dX6_tellOpenBouts_27 ml_X6_155 cal_X3_outcomeFor im_X3_outcomeFor se_X3_outcomeFor (hR1.at 0 rfl) rfl rfl rfl (Nat.le_of_ble_eq_true rfl) ⟨by decide, by decide⟩ ⟨by decide, by decide⟩ (c_X3_outcomeFor hst hR1 hF1 (by omega) hnw1 h12 hnb1 h6 hx hik e4 hi e5 hj hmt hro) (fun A51 hQ51 => ?_)
          obtain ⟨st51, m51, wR51, sR51⟩ := hQ51
          have w51X := hX1.s2 sR51 (m := 1) rfl (by omega)
          have w51F := hF1.s2 sR51 (m := 9) rfl (by omega)
          refine J_istore (L' := [(4, _), (3, _), (2, _), (0, _), (1, _)]) dX6_tellOpenBouts_30 (by decide) rfl ?_
          refine J_aload_n dX6_tellOpenBouts_32 rfl rfl ?_
          refine J_iload_n dX6_tellOpenBouts_33 rfl rfl ?_
          refine J_iload dX6_tellOpenBouts_34 rfl ?_
          refine J_callVw (As := [_, _]) dX6_tellOpenBouts_36 ml_X6_184 cal_X0_tellOutcome im_X0_tellOutcome se_X0_tellOutcome (w51F.at 0 rfl) rfl rfl rfl (Nat.le_of_ble_eq_true rfl) ⟨by decide, by decide⟩ ⟨by decide, by decide⟩ (c_X0_tellOutcome hst w51F hnw1 h12 hnb1 h6 hx hik e4 hi e5 hj (by rw [hrl]; exact hrv F1 i j)) (fun A52 hQ52 => ?_)
          have w52X := w51X.s2 hQ52.2 (m := 1) rfl (by omega)
          have w52R := wR51.s2 hQ52.2 (m := 6) rfl (by omega)
          refine J_iload_n dX6_tellOpenBouts_39 rfl rfl ?_
          refine J_iload dX6_tellOpenBouts_40 rfl ?_
          refine J_if_ne (tgt := 49) dX6_tellOpenBouts_42 rfl (fun h42 => ?_) (fun h42 => ?_)
          · refine J_iconst (v := 0) dX6_tellOpenBouts_49 (by decide) ?_
            refine J_iadd dX6_tellOpenBouts_50 ?_
            refine J_istore_n (L' := [(2, _), (4, _), (3, _), (0, _), (1, _)]) dX6_tellOpenBouts_51 rfl (by decide) rfl ?_
            refine J_iinc (v := _ + 1) (L' := [(3, _), (2, _), (4, _), (0, _), (1, _)]) dX6_tellOpenBouts_52 rfl rfl (by decide) rfl ?_
            refine J_goto (tgt := 4) dX6_tellOpenBouts_55 rfl ?_
            refine xx_J.pick [0, 1, 3, 4] rfl ?_
            exact ih _ _ _ _ _ (by rw [hx]; exact nI_1 k) w52X w52R hQ52.1 ((hs1.t1 sR51).t2 hQ52.2) hru1.st (by rw [← hv, tlP_s hik, if_pos h18, e4, e5, nI_clamp (by omega), nI_clamp (by omega), ← hrl]; first | rw [if_pos h42] | rw [if_neg h42]) (bdV_tell hbd1) ((tellF_k (F := F1)).1.trans hi1)
          · refine J_iconst (v := 1) dX6_tellOpenBouts_45 (by decide) ?_
            refine J_goto (tgt := 50) dX6_tellOpenBouts_46 rfl ?_
            refine J_iadd dX6_tellOpenBouts_50 ?_
            refine J_istore_n (L' := [(2, _), (4, _), (3, _), (0, _), (1, _)]) dX6_tellOpenBouts_51 rfl (by decide) rfl ?_
            refine J_iinc (v := _ + 1) (L' := [(3, _), (2, _), (4, _), (0, _), (1, _)]) dX6_tellOpenBouts_52 rfl rfl (by decide) rfl ?_
            refine J_goto (tgt := 4) dX6_tellOpenBouts_55 rfl ?_
            refine xx_J.pick [0, 1, 3, 4] rfl ?_
            exact ih _ _ _ _ _ (by rw [hx]; exact nI_1 k) w52X w52R hQ52.1 ((hs1.t1 sR51).t2 hQ52.2) hru1.st (by rw [← hv, tlP_s hik, if_pos h18, e4, e5, nI_clamp (by omega), nI_clamp (by omega), ← hrl]; first | rw [if_pos h42] | rw [if_neg h42]) (bdV_tell hbd1) ((tellF_k (F := F1)).1.trans hi1)
  refine xx_J.pick [0, 1, 2, 3] rfl ?_
  exact loop 0 (by omega) _ _ _ _ _ rfl hX hR hF (xx_s2.rf (b := b + 16) (e := b + 22) (b' := bf) (e' := bf + 9)) hru rfl hbd rfl
set_option maxHeartbeats 1000000 in
theorem c_X6_tellByRules (hst : l.stackTraces = false) (hX : xx_w b (layX b) A) (hG : gI b ru cr nw nb r FF A) (hrv : ∀ F i j, ru F i j = 0 ∨ ru F i j = 1 ∨ ru F i j = 2) (hrc : ∀ nb F F' i j, eqF nw nb F F' → i < nw → j < nw → ru F i j = ru F' i j) : xx_C G l yX6_tellByRules mX6_tellByRules 6 143 1 6 [.ref b] A n (xQ (exA eIS) (aTBR ru nb FF) n (fun A' => gI b ru cr nw nb r (sTBR ru nb FF) A' ∧ xx_same (b + 16) (b + 46) A A')) := by
  obtain ⟨R, F, F2, PS, hR, hF, hF2, hP, hru, he, hok⟩ := hG
  have hn : F.1 0 = nI nw := hok.1.1
  have h12 := hok.1.2
  have hb : F.1 5 = nI nb := hok.2.1.1
  have h6 := hok.2.1.2
  refine J_C hst (by decide +kernel) rfl rfl rfl (Nat.le_of_ble_eq_true rfl) ?_
  show xx_J _ _ _ _ _ _ _ _ 0 [(0, _)] [] _ _ _ _
  refine J_aload_n dX6_tellByRules_0 rfl rfl ?_
  refine J_getf dX6_tellByRules_1 fl_X6_31 (hX.at 0 rfl) rfl ?_
  refine J_callVr (As := []) dX6_tellByRules_4 ml_X6_106 cal_X0_countOpen im_X0_countOpen se_X0_countOpen (hF.at 0 rfl) rfl rfl rfl (Nat.le_of_ble_eq_true rfl) ⟨by decide, by decide⟩ ⟨by decide, by decide⟩ (c_X0_countOpen hst hF hb h6) ?_
  refine J_if_ne (tgt := 20) dX6_tellByRules_7 rfl (fun h7 => ?_) (fun h7 => ?_)
  · refine J_aload_n dX6_tellByRules_20 rfl rfl ?_
    refine J_aload_n dX6_tellByRules_21 rfl rfl ?_
    refine J_getf dX6_tellByRules_22 fl_X6_31 (hX.at 0 rfl) rfl ?_
    refine J_callVw (As := [_]) dX6_tellByRules_25 ml_X6_190 cal_X6_tellOpenBouts im_X6_tellOpenBouts se_X6_tellOpenBouts (hX.at 0 rfl) rfl rfl rfl (Nat.le_of_ble_eq_true rfl) ⟨by decide, by decide⟩ ⟨by decide, by decide⟩ (c_X6_tellOpenBouts hst hX hR hF (by omega) hru hrv hn h12 hb h6 hok.2.2.2.2.2.2.1) (fun A1 hQ1 => ?_)
    obtain ⟨R1, hru1, wR1, wF1, sP1⟩ := hQ1
    have w1X := hX.s2w sP1 (m := 1) rfl (by omega) (by omega)
    have w1F2 := hF2.s2w sP1 (m := 9) rfl (by omega) (by omega)
    have w1P := hP.s2w sP1 (m := 6) rfl (by omega) (by omega)
    refine J_ireturn dX6_tellByRules_28 rfl rfl (by decide) (by decide) ?_
    have e0 : (aTBR ru nb F) = (aTBR ru nb FF) := aTBR_c hrc he hok
    have e1 : (aTBR ru nb F) = (0, (tlP ru nb 0 F 0).2) := by unfold aTBR; rw [if_neg (show ¬ bx_sum (opn (F.2 6)) nb = 0 from h7)]
    have e2 : sTBR ru nb F = (tlP ru nb 0 F 0).1 := by unfold sTBR; rw [if_neg (show ¬ bx_sum (opn (F.2 6)) nb = 0 from h7)]
    have e3 := sTBR_c hrc he hok
    rw [e2] at e3
    exact ⟨rfl, by rw [← e0, e1]; exact ansR_0.symm, ⟨_, _, _, _, wR1, wF1, w1F2, w1P, hru1, e3, (okF.tla hrv hok).1⟩, ((xx_same.rf (b := b + 16) (e := b + 46)).trans (sP1.sm (by omega) (by omega)))⟩
  · refine J_throw (text := "no bout is without an outcome") hst dX6_tellByRules_10 dX6_tellByRules_13 dX6_tellByRules_14 dX6_tellByRules_16 dX6_tellByRules_19 (by decide) cl_X6_51 in_java_lang_IllegalStateException th3_X6_55 th4_X6_55 (by decide +kernel) rfl ⟨by decide, by decide⟩ (by decide) (by decide) ?_
    have e0 : (aTBR ru nb F) = (aTBR ru nb FF) := aTBR_c hrc he hok
    have e1 : (aTBR ru nb F) = (1, 0) := by unfold aTBR; rw [if_pos (show bx_sum (opn (F.2 6)) nb = 0 from h7)]
    have e2 : sTBR ru nb F = F := by unfold sTBR; rw [if_pos (show bx_sum (opn (F.2 6)) nb = 0 from h7)]
    have e3 := sTBR_c hrc he hok
    rw [e2] at e3
    exact ⟨rfl, by rw [← e0, e1]; exact (ansR_k (ex := exA eIS) (c := 1) (by decide)).symm, ⟨_, _, _, _, hR, hF, hF2, hP, hru, e3, hok⟩, (xx_same.rf (b := b + 16) (e := b + 46))⟩
end XCB
