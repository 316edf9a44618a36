/-! THE CLASS: what would be -/
section XCC
variable {G : xx_G} {l : Launch} {A A' : xx_H} {n b bf : Nat} {F FF R R' F2 PS : xS} {len i j k q s e t d nt tok v m nw nb r cr : Nat} {ru : xS → Nat → Nat → Int32}
theorem cpy_eq {O : xS} (h12 : nw ≤ 12) (h6 : nb ≤ 6) : eqF nw nb (cpyF F O) O := by
  refine ⟨⟨rfl, rfl, rfl, rfl⟩, fun i hi => ?_, fun c w hc hw => ?_, fun i j hi hj => ?_, fun q hq => ⟨?_, ?_, ?_⟩⟩
  · exact Or.inl (cpa_lt (n := 3) rfl (by omega))
  · exact cpa_lt (n := 120) rfl (by omega)
  · exact cpa_lt (n := 144) rfl (by omega)
  · exact cpa_lt (n := 6) rfl (by omega)
  · exact cpa_lt (n := 6) rfl (by omega)
  · exact cpa_lt (n := 6) rfl (by omega)
theorem rvp_c {f g f' g' : Nat → Int32} {w : Int32} : ∀ d i, (∀ q, q < i + d → f q = f' q ∧ g q = g' q) → rivP f g w d i = rivP f' g' w d i := by
  intro d
  induction d with
  | zero => intro i _; rfl
  | succ d ih =>
    intro i h
    show (if f i = w then g i else if g i = w then f i else rivP f g w d (i + 1)) = if f' i = w then g' i else if g' i = w then f' i else rivP f' g' w d (i + 1)
    rw [(h i (by omega)).1, (h i (by omega)).2, ih (i + 1) (fun q hq => h q (by omega))]
set_option maxHeartbeats 1000000 in
theorem c_X6_nextOpponentOf (hst : l.stackTraces = false) (hX : xx_w b (layX b) A) (hG : gI b ru cr nw nb r FF A) (w : Int32) : xx_C G l yX6_nextOpponentOf mX6_nextOpponentOf 31 726 3 18 [.ref b, .int w] A n (xQ (exB eIO eIS) (aNxt nw nb FF w) n (fun A' => gI b ru cr nw nb r FF A' ∧ xx_same (b + 16) (b + 46) A A')) := by
  obtain ⟨R, F, F2, PS, hR, hF, hF2, hP, hru, he, hok⟩ := hG
  have hn : F.1 0 = nI nw := hok.1.1
  have h12 := hok.1.2
  have hb : F.1 5 = nI nb := hok.2.1.1
  have h6 := hok.2.1.2
  refine J_C hst (by decide +kernel) rfl rfl rfl (Nat.le_of_ble_eq_true rfl) ?_
  show xx_J _ _ _ _ _ _ _ _ 0 [(0, _), (1, _)] [] _ _ _ _
  refine J_aload_n dX6_nextOpponentOf_0 rfl rfl ?_
  refine J_iload_n dX6_nextOpponentOf_1 rfl rfl ?_
  refine J_callV (As := [_]) dX6_nextOpponentOf_2 ml_X6_109 cal_X6_needWrestler im_X6_needWrestler se_X6_needWrestler (hX.at 0 rfl) rfl rfl rfl (Nat.le_of_ble_eq_true rfl) ⟨by decide, by decide⟩ ⟨by decide, by decide⟩ (c_X6_needWrestler hst hX hF w) (fun E1 A1 n1 _ hQ1 => ?_) (fun v1 A1 n1 _ hQ1 => ?_)
  · obtain ⟨en1, eA1, eE1, hc1⟩ := nQ_x hQ1
    subst en1; subst eA1; subst eE1
    refine JX_out rfl (by decide) (by decide) ?_
    have e0 : (aNxt nw nb F w) = (aNxt nw nb FF w) := aNxt_c he hok
    have e1 : (aNxt nw nb F w) = (1, 0) := by unfold aNxt; rw [if_neg hc1]
    exact ⟨rfl, by rw [← e0, e1]; exact (ansR_k (ex := exB eIO eIS) (c := 1) (by decide)).symm, ⟨⟨_, _, _, _, hR, hF, hF2, hP, hru, he, hok⟩, (xx_same.rf (b := b + 16) (e := b + 46))⟩⟩
  · obtain ⟨en1, eA1, eE1, hc1⟩ := nQ_v hQ1
    subst en1; subst eA1; subst eE1
    obtain ⟨ex1, ei1⟩ := hc1.i hn h12
    refine J_aload_n dX6_nextOpponentOf_5 rfl rfl ?_
    refine J_callV (As := []) dX6_nextOpponentOf_6 ml_X6_169 cal_X6_needPairable im_X6_needPairable se_X6_needPairable (hX.at 0 rfl) rfl rfl rfl (Nat.le_of_ble_eq_true rfl) ⟨by decide, by decide⟩ ⟨by decide, by decide⟩ (c_X6_needPairable hst hX hF hn h12 hb h6) (fun E2 A2 n2 _ hQ2 => ?_) (fun v2 A2 n2 _ hQ2 => ?_)
    · obtain ⟨en2, eA2, eE2, hc2⟩ := nQ_x hQ2
      subst en2; subst eA2; subst eE2
      refine JX_out rfl (by decide) (by decide) ?_
      have e0 : (aNxt nw nb F w) = (aNxt nw nb FF w) := aNxt_c he hok
      have e1 : (aNxt nw nb F w) = (2, 0) := by unfold aNxt; rw [if_pos hc1, if_neg hc2]
      exact ⟨rfl, by rw [← e0, e1]; exact (ansR_k (ex := exB eIO eIS) (c := 2) (by decide)).symm, ⟨⟨_, _, _, _, hR, hF, hF2, hP, hru, he, hok⟩, (xx_same.rf (b := b + 16) (e := b + 46))⟩⟩
    · obtain ⟨en2, eA2, eE2, hc2⟩ := nQ_v hQ2
      subst en2; subst eA2; subst eE2
      skip
      refine J_aload_n dX6_nextOpponentOf_9 rfl rfl ?_
      refine J_getf dX6_nextOpponentOf_10 fl_X6_41 (hX.at 0 rfl) rfl ?_
      refine J_aload_n dX6_nextOpponentOf_13 rfl rfl ?_
      refine J_getf dX6_nextOpponentOf_14 fl_X6_31 (hX.at 0 rfl) rfl ?_
      refine J_callVw (As := [_]) dX6_nextOpponentOf_17 ml_X6_172 cal_X1_find im_X1_find se_X1_find (hP.at 0 rfl) rfl rfl rfl (Nat.le_of_ble_eq_true rfl) ⟨by decide, by decide⟩ ⟨by decide, by decide⟩ (c_X1_find hst hP hF (by omega) hn h12) (fun A3 hQ3 => ?_)
      obtain ⟨PS3, mp3, o3, ls3, ⟨hor3, hfn3⟩, wP3, wF3, sP3⟩ := hQ3
      have w3X := hX.s2w sP3 (m := 1) rfl (by omega) (by omega)
      have w3R2 := hR.s2w sP3 (m := 6) rfl (by omega) (by omega)
      have w3F2 := hF2.s2w sP3 (m := 9) rfl (by omega) (by omega)
      have rx3 := rnd_x (mp := mp3) hor3 hfn3 hok hc2
      have erv : rivP (PS3.2 1) (PS3.2 2) w (npF F nw) 0 = rivN F nw w := rvp_c (npF F nw) 0 (fun q hq => ⟨(rx3.1.2.2 q (by omega)).1, (rx3.1.2.2 q (by omega)).2.2.1⟩)
      refine J_aload_n dX6_nextOpponentOf_20 rfl rfl ?_
      refine J_getf dX6_nextOpponentOf_21 fl_X6_41 (w3X.at 0 rfl) rfl ?_
      refine J_iload_n dX6_nextOpponentOf_24 rfl rfl ?_
      refine J_callVr (As := [_]) dX6_nextOpponentOf_25 ml_X6_198 cal_X1_rivalOf im_X1_rivalOf se_X1_rivalOf (wP3.at 0 rfl) rfl rfl rfl (Nat.le_of_ble_eq_true rfl) ⟨by decide, by decide⟩ ⟨by decide, by decide⟩ (c_X1_rivalOf hst wP3 rx3.1.1 rx3.1.2.1 _) ?_
      refine J_istore_n (L' := [(2, _), (0, _), (1, _)]) dX6_nextOpponentOf_28 rfl (by decide) rfl ?_
      refine J_iload_n dX6_nextOpponentOf_29 rfl rfl ?_
      refine J_iconst (v := -1) dX6_nextOpponentOf_30 (by decide) ?_
      refine J_icmp_ne (tgt := 44) dX6_nextOpponentOf_31 rfl (fun h31 => ?_) (fun h31 => ?_)
      · have g31 : ¬ rivN F nw w = -1 := fun z => h31 (erv.trans z)
        refine J_iload_n dX6_nextOpponentOf_44 rfl rfl ?_
        refine J_ireturn dX6_nextOpponentOf_45 rfl rfl (by decide) (by decide) ?_
        have e0 : (aNxt nw nb F w) = (aNxt nw nb FF w) := aNxt_c he hok
        have e1 : (aNxt nw nb F w) = (0, rivN F nw w) := by unfold aNxt; rw [if_pos hc1, if_pos hc2, if_neg g31]
        exact ⟨rfl, by rw [← e0, e1]; exact (by rw [ansR_0]; exact congrArg (fun z => Sum.inl (some (Value.int z))) erv), ⟨⟨_, _, _, _, w3R2, wF3, w3F2, wP3, hru, (eqF.o78.trans he), (eqF.o78.symm.ok hok)⟩, ((xx_same.rf (b := b + 16) (e := b + 46)).trans (sP3.sm (by omega) (by omega)))⟩⟩
      · have g31 : rivN F nw w = -1 := erv.symm.trans h31
        refine J_throw (text := "this one would have no bout in the next round") hst dX6_nextOpponentOf_34 dX6_nextOpponentOf_37 dX6_nextOpponentOf_38 dX6_nextOpponentOf_40 dX6_nextOpponentOf_43 (by decide) cl_X6_51 in_java_lang_IllegalStateException th3_X6_55 th4_X6_55 (by decide +kernel) rfl ⟨by decide, by decide⟩ (by decide) (by decide) ?_
        have e0 : (aNxt nw nb F w) = (aNxt nw nb FF w) := aNxt_c he hok
        have e1 : (aNxt nw nb F w) = (2, 0) := by unfold aNxt; rw [if_pos hc1, if_pos hc2, if_pos g31]
        exact ⟨rfl, by rw [← e0, e1]; exact (ansR_k (ex := exB eIO eIS) (c := 2) (by decide)).symm, ⟨⟨_, _, _, _, w3R2, wF3, w3F2, wP3, hru, (eqF.o78.trans he), (eqF.o78.symm.ok hok)⟩, ((xx_same.rf (b := b + 16) (e := b + 46)).trans (sP3.sm (by omega) (by omega)))⟩⟩
set_option maxHeartbeats 1000000 in
theorem c_X6_nextRematches (hst : l.stackTraces = false) (hX : xx_w b (layX b) A) (hG : gI b ru cr nw nb r FF A)  : xx_C G l yX6_nextRematches mX6_nextRematches 31 726 1 6 [.ref b] A n (xQ (exA eIS) (aRem nw nb FF) n (fun A' => gI b ru cr nw nb r FF A' ∧ xx_same (b + 16) (b + 46) A A')) := by
  obtain ⟨R, F, F2, PS, hR, hF, hF2, hP, hru, he, hok⟩ := hG
  have hn : F.1 0 = nI nw := hok.1.1
  have h12 := hok.1.2
  have hb : F.1 5 = nI nb := hok.2.1.1
  have h6 := hok.2.1.2
  refine J_C hst (by decide +kernel) rfl rfl rfl (Nat.le_of_ble_eq_true rfl) ?_
  show xx_J _ _ _ _ _ _ _ _ 0 [(0, _)] [] _ _ _ _
  refine J_aload_n dX6_nextRematches_0 rfl rfl ?_
  refine J_callV (As := []) dX6_nextRematches_1 ml_X6_169 cal_X6_needPairable im_X6_needPairable se_X6_needPairable (hX.at 0 rfl) rfl rfl rfl (Nat.le_of_ble_eq_true rfl) ⟨by decide, by decide⟩ ⟨by decide, by decide⟩ (c_X6_needPairable hst hX hF hn h12 hb h6) (fun E1 A1 n1 _ hQ1 => ?_) (fun v1 A1 n1 _ hQ1 => ?_)
  · obtain ⟨en1, eA1, eE1, hc1⟩ := nQ_x hQ1
    subst en1; subst eA1; subst eE1
    refine JX_out rfl (by decide) (by decide) ?_
    have e0 : (aRem nw nb F) = (aRem nw nb FF) := aRem_c he hok
    have e1 : (aRem nw nb F) = (1, 0) := by unfold aRem; rw [if_neg hc1]
    exact ⟨rfl, by rw [← e0, e1]; exact (ansR_k (ex := exA eIS) (c := 1) (by decide)).symm, ⟨⟨_, _, _, _, hR, hF, hF2, hP, hru, he, hok⟩, (xx_same.rf (b := b + 16) (e := b + 46))⟩⟩
  · obtain ⟨en1, eA1, eE1, hc1⟩ := nQ_v hQ1
    subst en1; subst eA1; subst eE1
    skip
    refine J_aload_n dX6_nextRematches_4 rfl rfl ?_
    refine J_getf dX6_nextRematches_5 fl_X6_41 (hX.at 0 rfl) rfl ?_
    refine J_aload_n dX6_nextRematches_8 rfl rfl ?_
    refine J_getf dX6_nextRematches_9 fl_X6_31 (hX.at 0 rfl) rfl ?_
    refine J_callVw (As := [_]) dX6_nextRematches_12 ml_X6_172 cal_X1_find im_X1_find se_X1_find (hP.at 0 rfl) rfl rfl rfl (Nat.le_of_ble_eq_true rfl) ⟨by decide, by decide⟩ ⟨by decide, by decide⟩ (c_X1_find hst hP hF (by omega) hn h12) (fun A2 hQ2 => ?_)
    obtain ⟨PS2, mp2, o2, ls2, ⟨hor2, hfn2⟩, wP2, wF2, sP2⟩ := hQ2
    have w2X := hX.s2w sP2 (m := 1) rfl (by omega) (by omega)
    have w2R2 := hR.s2w sP2 (m := 6) rfl (by omega) (by omega)
    have w2F2 := hF2.s2w sP2 (m := 9) rfl (by omega) (by omega)
    refine J_aload_n dX6_nextRematches_15 rfl rfl ?_
    refine J_getf dX6_nextRematches_16 fl_X6_41 (w2X.at 0 rfl) rfl ?_
    refine J_getf dX6_nextRematches_19 fl_X6_201 (wP2.at 0 rfl) rfl ?_
    refine J_ireturn dX6_nextRematches_22 rfl rfl (by decide) (by decide) ?_
    have hl9 := lsF_eq (F := F) ⟨hor2.1, hor2.2.1⟩
    subst hl9
    have erm : PS2.1 1 = rmN F (p1F F nw) (p2F F nw) (npF F nw) := by rw [rm_mr h12]; exact hfn2.2.1
    have e0 : (aRem nw nb F) = (aRem nw nb FF) := aRem_c he hok
    have e1 : (aRem nw nb F) = (0, rmN F (p1F F nw) (p2F F nw) (npF F nw)) := by unfold aRem; rw [if_pos hc1]
    exact ⟨rfl, by rw [← e0, e1]; exact (by rw [ansR_0]; exact congrArg (fun z => Sum.inl (some (Value.int z))) erm), ⟨⟨_, _, _, _, w2R2, wF2, w2F2, wP2, hru, (eqF.o78.trans he), (eqF.o78.symm.ok hok)⟩, ((xx_same.rf (b := b + 16) (e := b + 46)).trans (sP2.sm (by omega) (by omega)))⟩⟩
set_option maxHeartbeats 4000000 in
theorem c_X6_playTrial (hst : l.stackTraces = false) (hX : xx_w b (layX b) A) (hR : xx_w (b + 16) (layR (b + 16) R) A) (hF : xx_w (b + 22) (layF (b + 22) F) A) (hF2 : xx_w (b + 31) (layF (b + 31) F2) A) (hP : xx_w (b + 40) (layP (b + 40) PS) A) (hru : ruX R ru cr) (he : eqF nw nb F FF) (hok : okF F nw nb r)  (hrv : ∀ F i j, ru F i j = 0 ∨ ru F i j = 1 ∨ ru F i j = 2) (hrc : ∀ nb F F' i j, eqF nw nb F F' → i < nw → j < nw → ru F i j = ru F' i j) {y : Int32} (hy : y = nI m) (hm : m ≤ 10) : xx_C G l yX6_playTrial mX6_playTrial 31 726 0 0 [.ref b, .int y] A n (xx_wr none n (fun A' => ∃ R' F2' PS' nb' r', ruX R' ru cr ∧ xx_w (b + 16) (layR (b + 16) R') A' ∧ xx_w (b + 22) (layF (b + 22) F) A' ∧ xx_w (b + 31) (layF (b + 31) F2') A' ∧ xx_w (b + 40) (layP (b + 40) PS') A' ∧ eqF nw nb' F2' (gaF ru nw nb m FF) ∧ okF F2' nw nb' r' ∧ xx_same (b + 16) (b + 46) A A')) := by
  have hn : F.1 0 = nI nw := hok.1.1
  have h12 := hok.1.2
  have h6 := hok.2.1.2
  refine J_C hst (by decide +kernel) rfl rfl rfl (Nat.le_of_ble_eq_true rfl) ?_
  show xx_J _ _ _ _ _ _ _ _ 0 [(0, _), (1, _)] [] _ _ _ _
  refine J_aload_n dX6_playTrial_0 rfl rfl ?_
  refine J_getf dX6_playTrial_1 fl_X6_35 (hX.at 0 rfl) rfl ?_
  refine J_aload_n dX6_playTrial_4 rfl rfl ?_
  refine J_getf dX6_playTrial_5 fl_X6_31 (hX.at 0 rfl) rfl ?_
  refine J_callVw (As := [_]) dX6_playTrial_8 ml_X6_252 cal_X0_copyFrom im_X0_copyFrom se_X0_copyFrom (hF2.at 0 rfl) rfl rfl rfl (Nat.le_of_ble_eq_true rfl) ⟨by decide, by decide⟩ ⟨by decide, by decide⟩ (c_X0_copyFrom hst hF2 hF (by omega)) (fun A1 hQ1 => ?_)
  have w1F := hF.s2 hQ1.2 (m := 9) rfl (by omega)
  have w1P := hP.s2 hQ1.2 (m := 6) rfl (by omega)
  have w1R2 := hR.s2 hQ1.2 (m := 6) rfl (by omega)
  have w1X := hX.s2 hQ1.2 (m := 1) rfl (by omega)
  have hec : eqF nw nb (cpyF F2 F) FF := (cpy_eq h12 h6).trans he
  have hokc : okF (cpyF F2 F) nw nb r := (cpy_eq (F := F2) (O := F) h12 h6).symm.ok hok
  refine J_aload_n dX6_playTrial_11 rfl rfl ?_
  refine J_aload_n dX6_playTrial_12 rfl rfl ?_
  refine J_getf dX6_playTrial_13 fl_X6_35 (w1X.at 0 rfl) rfl ?_
  refine J_callVw (As := [_]) dX6_playTrial_16 ml_X6_190 cal_X6_tellOpenBouts im_X6_tellOpenBouts se_X6_tellOpenBouts (w1X.at 0 rfl) rfl rfl rfl (Nat.le_of_ble_eq_true rfl) ⟨by decide, by decide⟩ ⟨by decide, by decide⟩ (c_X6_tellOpenBouts hst w1X w1R2 hQ1.1 (by omega) hru hrv hokc.1.1 h12 hokc.2.1.1 h6 hokc.2.2.2.2.2.2.1) (fun A2 hQ2 => ?_)
  obtain ⟨R2, hru2, wR2, wT2, sP2⟩ := hQ2
  have w2X := w1X.s2w sP2 (m := 1) rfl (by omega) (by omega)
  have w2F := w1F.s2w sP2 (m := 9) rfl (by omega) (by omega)
  have w2P := w1P.s2w sP2 (m := 6) rfl (by omega) (by omega)
  refine J_pop dX6_playTrial_19 rfl ?_
  refine J_iconst (v := 0) dX6_playTrial_20 (by decide) ?_
  refine J_istore_n (L' := [(2, _), (0, _), (1, _)]) dX6_playTrial_21 rfl (by decide) rfl ?_
  have loop : ∀ k, k ≤ m → ∀ (x : Int32) (A1 : xx_H) (R1 T1 Q1 Z1 : xS) (b1 r1 : Nat), (x = nI k) → (xx_w b (layX b) A1) → (xx_w (b + 16) (layR (b + 16) R1) A1) → (xx_w (b + 22) (layF (b + 22) F) A1) → (xx_w (b + 31) (layF (b + 31) T1) A1) → (xx_w (b + 40) (layP (b + 40) Q1) A1) → (xx_same (b + 16) (b + 46) A A1) → (ruX R1 ru cr) → (eqF nw b1 T1 Z1) → (okF T1 nw b1 r1) → (gaP ru nw (m - k) Z1 b1 = gaP ru nw m (tlP ru nb 0 FF 0).1 nb) → xx_J G l mX6_playTrial 31 726 0 0 (xx_wr none n (fun A' => ∃ R' F2' PS' nb' r', ruX R' ru cr ∧ xx_w (b + 16) (layR (b + 16) R') A' ∧ xx_w (b + 22) (layF (b + 22) F) A' ∧ xx_w (b + 31) (layF (b + 31) F2') A' ∧ xx_w (b + 40) (layP (b + 40) PS') A' ∧ eqF nw nb' F2' (gaF ru nw nb m FF) ∧ okF F2' nw nb' r' ∧ xx_same (b + 16) (b + 46) A A')) 22 [(2, .int x), (0, .ref b), (1, .int y)] [] A1 n 0 0 := by
    refine xx_dn ?_ ?_
    · intro x  A1  R1 T1 Q1 Z1  b1 r1  hx hX1 hR1 hF1 hT1 hP1 hs1 hru1 he1 hok1 hv
      have ex : x.toInt = m := by rw [hx]; exact i_n (by omega)
      have ey : y.toInt = m := by rw [hy]; exact i_n (by omega)
      refine J_iload_n dX6_playTrial_22 rfl rfl ?_
      refine J_iload_n dX6_playTrial_23 rfl rfl ?_
      refine J_icmp_ge (tgt := 74) dX6_playTrial_24 rfl (fun h24 => ?_) (fun h24 => ?_)
      · refine J_return dX6_playTrial_74 rfl (by decide) (by decide) ?_
        exact ⟨rfl, rfl, R1, T1, Q1, b1, r1, hru1, hR1, hF1, hT1, hP1, (by rw [Nat.sub_self] at hv; have z := congrArg Prod.fst hv; rw [show gaF ru nw nb m FF = Z1 from z.symm]; exact he1), hok1, hs1⟩
      · first | (exfalso; simp only [i_lt, i_le, i_eq, i_0, i_1, i_2, i_3, i_4, i_5, i_6, i_8, i_9, i_10, i_12, i_16, i_20, i_m1, i_400, i_2000] at h24; omega) | (exfalso; simp only [s_up, a_up, va_up, i_lt, i_le, i_eq, i_0, i_1, i_2, i_3, i_4, i_5, i_6, i_8, i_9, i_10, i_12, i_16, i_20, i_m1, i_400, i_2000, ↓reduceIte, Nat.reduceEqDiff] at h24; omega)
    · intro k hik ih x  A1  R1 T1 Q1 Z1  b1 r1  hx hX1 hR1 hF1 hT1 hP1 hs1 hru1 he1 hok1 hv
      have ex : x.toInt = k := by rw [hx]; exact i_n (by omega)
      have ey : y.toInt = m := by rw [hy]; exact i_n (by omega)
      refine J_iload_n dX6_playTrial_22 rfl rfl ?_
      refine J_iload_n dX6_playTrial_23 rfl rfl ?_
      refine J_icmp_ge (tgt := 74) dX6_playTrial_24 rfl (fun h24 => ?_) (fun h24 => ?_)
      · first | (exfalso; simp only [i_lt, i_le, i_eq, i_0, i_1, i_2, i_3, i_4, i_5, i_6, i_8, i_9, i_10, i_12, i_16, i_20, i_m1, i_400, i_2000] at h24; omega) | (exfalso; simp only [s_up, a_up, va_up, i_lt, i_le, i_eq, i_0, i_1, i_2, i_3, i_4, i_5, i_6, i_8, i_9, i_10, i_12, i_16, i_20, i_m1, i_400, i_2000, ↓reduceIte, Nat.reduceEqDiff] at h24; omega)
      · refine J_aload_n dX6_playTrial_27 rfl rfl ?_
        refine J_getf dX6_playTrial_28 fl_X6_35 (hX1.at 0 rfl) rfl ?_
        refine J_callVr (As := []) dX6_playTrial_31 ml_X6_244 cal_X0_canPair im_X0_canPair se_X0_canPair (hT1.at 0 rfl) rfl rfl rfl (Nat.le_of_ble_eq_true rfl) ⟨by decide, by decide⟩ ⟨by decide, by decide⟩ (c_X0_canPair hst hT1 hok1.1.1 h12 hok1.2.1.1 hok1.2.1.2) ?_
        refine J_ifb_eq (tgt := 74) dX6_playTrial_34 rfl (fun h34 => ?_) (fun h34 => ?_)
        · have hcan : ¬ canB T1 nw b1 = true := fun z => h34 (canB_i.mp z)
          refine J_return dX6_playTrial_74 rfl (by decide) (by decide) ?_
          exact ⟨rfl, rfl, R1, T1, Q1, b1, r1, hru1, hR1, hF1, hT1, hP1, (by rw [gaP_s hik, if_neg (fun z => hcan ((can_c he1).mpr z))] at hv; have z := congrArg Prod.fst hv; rw [show gaF ru nw nb m FF = Z1 from z.symm]; exact he1), hok1, hs1⟩
        · have hcan : canB T1 nw b1 = true := canB_i.mpr h34
          refine J_aload_n dX6_playTrial_37 rfl rfl ?_
          refine J_getf dX6_playTrial_38 fl_X6_41 (hX1.at 0 rfl) rfl ?_
          refine J_aload_n dX6_playTrial_41 rfl rfl ?_
          refine J_getf dX6_playTrial_42 fl_X6_35 (hX1.at 0 rfl) rfl ?_
          refine J_callVw (As := [_]) dX6_playTrial_45 ml_X6_172 cal_X1_find im_X1_find se_X1_find (hP1.at 0 rfl) rfl rfl rfl (Nat.le_of_ble_eq_true rfl) ⟨by decide, by decide⟩ ⟨by decide, by decide⟩ (c_X1_find hst hP1 hT1 (by omega) hok1.1.1 h12) (fun A53 hQ53 => ?_)
          obtain ⟨PS53, mp53, o53, ls53, ⟨hor53, hfn53⟩, wP53, wF53, sP53⟩ := hQ53
          have w53X := hX1.s2w sP53 (m := 1) rfl (by omega) (by omega)
          have w53R2 := hR1.s2w sP53 (m := 6) rfl (by omega) (by omega)
          have w53F := hF1.s2w sP53 (m := 9) rfl (by omega) (by omega)
          have rx := rnd_x (mp := mp53) hor53 hfn53 hok1 hcan
          have he2 : eqF nw (npF T1 nw) (startRoundF (a_up (a_up T1 8 mp53) 7 o53) PS53 (p1F T1 nw) (p2F T1 nw) (npF T1 nw)) (roundF Z1 nw) := rx.2.2.trans (rnd_c he1 hok1 hcan)
          have hok2 : okF (startRoundF (a_up (a_up T1 8 mp53) 7 o53) PS53 (p1F T1 nw) (p2F T1 nw) (npF T1 nw)) nw (npF T1 nw) (r1 + 1) := rx.2.2.symm.ok (hok1.rnd hcan).2.2.2
          have hnp := (he1.pairs (hok1.rnd hcan).2.2.1).1
          have he3 := tl_c hrc he2 hok2
          refine J_aload_n dX6_playTrial_48 rfl rfl ?_
          refine J_getf dX6_playTrial_49 fl_X6_35 (w53X.at 0 rfl) rfl ?_
          refine J_aload_n dX6_playTrial_52 rfl rfl ?_
          refine J_getf dX6_playTrial_53 fl_X6_41 (w53X.at 0 rfl) rfl ?_
          refine J_callVw (As := [_]) dX6_playTrial_56 ml_X6_176 cal_X0_startRound im_X0_startRound se_X0_startRound (wF53.at 0 rfl) rfl rfl rfl (Nat.le_of_ble_eq_true rfl) ⟨by decide, by decide⟩ ⟨by decide, by decide⟩ (c_X0_startRound hst wF53 wP53 (by omega) hok1.1.1 h12 rx.1 rx.2.1) (fun A54 hQ54 => ?_)
          have w54F := w53F.s2 hQ54.2 (m := 9) rfl (by omega)
          have w54P := wP53.s2 hQ54.2 (m := 6) rfl (by omega)
          have w54R2 := w53R2.s2 hQ54.2 (m := 6) rfl (by omega)
          have w54X := w53X.s2 hQ54.2 (m := 1) rfl (by omega)
          refine J_aload_n dX6_playTrial_59 rfl rfl ?_
          refine J_aload_n dX6_playTrial_60 rfl rfl ?_
          refine J_getf dX6_playTrial_61 fl_X6_35 (w54X.at 0 rfl) rfl ?_
          refine J_callVw (As := [_]) dX6_playTrial_64 ml_X6_190 cal_X6_tellOpenBouts im_X6_tellOpenBouts se_X6_tellOpenBouts (w54X.at 0 rfl) rfl rfl rfl (Nat.le_of_ble_eq_true rfl) ⟨by decide, by decide⟩ ⟨by decide, by decide⟩ (c_X6_tellOpenBouts hst w54X w54R2 hQ54.1 (by omega) hru1 hrv hok2.1.1 h12 hok2.2.1.1 hok2.2.1.2 hok2.2.2.2.2.2.2.1) (fun A55 hQ55 => ?_)
          obtain ⟨R55, hru55, wR55, wT55, sP55⟩ := hQ55
          have w55X := w54X.s2w sP55 (m := 1) rfl (by omega) (by omega)
          have w55F := w54F.s2w sP55 (m := 9) rfl (by omega) (by omega)
          have w55P := w54P.s2w sP55 (m := 6) rfl (by omega) (by omega)
          refine J_pop dX6_playTrial_67 rfl ?_
          refine J_iinc (v := _ + 1) (L' := [(2, _), (0, _), (1, _)]) dX6_playTrial_68 rfl rfl (by decide) rfl ?_
          refine J_goto (tgt := 22) dX6_playTrial_71 rfl ?_
          refine xx_J.pick [0, 1, 2] rfl ?_
          exact ih _ _ _ _ _ _ _ _ (by rw [hx]; exact nI_1 k) w55X wR55 w55F wT55 w55P (((hs1.trans (sP53.sm (by omega) (by omega))).trans (hQ54.2.wide (by omega) (by omega))).trans (sP55.sm (by omega) (by omega))) hru55 he3.1 (okF.tla hrv hok2).1 (by rw [← hv, gaP_s hik, if_pos ((can_c he1).mp hcan), ← hnp])
  refine xx_J.pick [0, 1, 2] rfl ?_
  exact loop 0 (by omega) _ _ _ _ _ _ _ _ rfl w2X wR2 w2F wT2 w2P (((xx_same.rf (b := b + 16) (e := b + 46)).trans (hQ1.2.wide (by omega) (by omega))).trans (sP2.sm (by omega) (by omega))) hru2 (tl_c hrc hec hokc).1 (okF.tla hrv hokc).1 rfl
set_option maxHeartbeats 1000000 in
theorem c_X6_leaderAfter (hst : l.stackTraces = false) (hX : xx_w b (layX b) A) (hG : gI b ru cr nw nb r FF A) (w : Int32) (hrv : ∀ F i j, ru F i j = 0 ∨ ru F i j = 1 ∨ ru F i j = 2) (hrc : ∀ nb F F' i j, eqF nw nb F F' → i < nw → j < nw → ru F i j = ru F' i j) : xx_C G l yX6_leaderAfter mX6_leaderAfter 32 748 2 12 [.ref b, .int w] A n (xQ (exB eIA eIS) (aLead ru nw nb FF w) n (fun A' => gI b ru cr nw nb r FF A' ∧ xx_same (b + 16) (b + 46) A A')) := by
  obtain ⟨R, F, F2, PS, hR, hF, hF2, hP, hru, he, hok⟩ := hG
  have hn : F.1 0 = nI nw := hok.1.1
  have h12 := hok.1.2
  have hb : F.1 5 = nI nb := hok.2.1.1
  have h6 := hok.2.1.2
  refine J_C hst (by decide +kernel) rfl rfl rfl (Nat.le_of_ble_eq_true rfl) ?_
  show xx_J _ _ _ _ _ _ _ _ 0 [(0, _), (1, _)] [] _ _ _ _
  refine J_iload_n dX6_leaderAfter_0 rfl rfl ?_
  refine J_callSg (As := [_]) dX6_leaderAfter_1 ml_X6_204 cal_X6_needRoundsAhead rfl sm_X6_needRoundsAhead rfl (Nat.le_of_ble_eq_true rfl) ⟨by decide, by decide⟩ ⟨by decide, by decide⟩ (c_X6_needRoundsAhead hst w) (fun v1 A1 n1 _ hQ1 => ?_) (fun E1 A1 n1 _ hQ1 => ?_)
  · obtain ⟨en1, eA1, eE1, hc1⟩ := nQ_v hQ1
    subst en1; subst eA1; subst eE1
    skip
    refine J_aload_n dX6_leaderAfter_4 rfl rfl ?_
    refine J_getf dX6_leaderAfter_5 fl_X6_31 (hX.at 0 rfl) rfl ?_
    refine J_getf dX6_leaderAfter_8 fl_X6_93 (hF.at 0 rfl) rfl ?_
    refine J_if_ne (tgt := 24) dX6_leaderAfter_11 rfl (fun h11 => ?_) (fun h11 => ?_)
    · have hnw0 : 0 < nw := Nat.pos_of_ne_zero (fun z => h11 (by rw [hn, z]; rfl))
      refine J_aload_n dX6_leaderAfter_24 rfl rfl ?_
      refine J_iload_n dX6_leaderAfter_25 rfl rfl ?_
      refine J_callVw (As := [_]) dX6_leaderAfter_26 ml_X6_209 cal_X6_playTrial im_X6_playTrial se_X6_playTrial (hX.at 0 rfl) rfl rfl rfl (Nat.le_of_ble_eq_true rfl) ⟨by decide, by decide⟩ ⟨by decide, by decide⟩ (c_X6_playTrial hst hX hR hF hF2 hP hru he hok hrv hrc (m := wi w) (r10 hc1).1 (r10 hc1).2) (fun A2 hQ2 => ?_)
      obtain ⟨R2, T2, PS2, nbg, rg, hru2, wR2, wF2, wT2, wP2, heg, hokg, sP2⟩ := hQ2
      have w2X := hX.s2 sP2 (m := 1) rfl (by omega)
      refine J_aload_n dX6_leaderAfter_29 rfl rfl ?_
      refine J_getf dX6_leaderAfter_30 fl_X6_35 (w2X.at 0 rfl) rfl ?_
      refine J_callVw (As := []) dX6_leaderAfter_33 ml_X6_120 cal_X0_putInOrder im_X0_putInOrder se_X0_putInOrder (wT2.at 0 rfl) rfl rfl rfl (Nat.le_of_ble_eq_true rfl) ⟨by decide, by decide⟩ ⟨by decide, by decide⟩ (c_X0_putInOrder hst wT2 hokg.1.1 h12) (fun A3 hQ3 => ?_)
      obtain ⟨mp3, o3, ls3, wT3, sT3, hor3⟩ := hQ3
      have w3X := w2X.s2 sT3 (m := 1) rfl (by omega)
      have w3R2 := wR2.s2 sT3 (m := 6) rfl (by omega)
      have w3F := wF2.s2 sT3 (m := 9) rfl (by omega)
      have w3P := wP2.s2 sT3 (m := 6) rfl (by omega)
      refine J_aload_n dX6_leaderAfter_36 rfl rfl ?_
      refine J_getf dX6_leaderAfter_37 fl_X6_35 (w3X.at 0 rfl) rfl ?_
      refine J_iconst (v := 0) dX6_leaderAfter_40 (by decide) ?_
      refine J_callVr (As := [_]) dX6_leaderAfter_41 ml_X6_135 cal_X0_atPlace im_X0_atPlace se_X0_atPlace (wT3.at 0 rfl) rfl rfl rfl (Nat.le_of_ble_eq_true rfl) ⟨by decide, by decide⟩ ⟨by decide, by decide⟩ (c_X0_atPlace hst wT3 hokg.1.1 h12 (i := 0) rfl hnw0) ?_
      refine J_ireturn dX6_leaderAfter_44 rfl rfl (by decide) (by decide) ?_
      have e7 := lsF_eq (F := T2) ⟨hor3.1, hor3.2.1⟩
      have e8 := hor3.2.2 0 hnw0
      rw [e7, heg.ls] at e8
      have e1 : aLead ru nw nb FF w = (0, nI ((lsF (gaF ru nw nb (wi w) FF) nw).getD 0 0)) := by
        unfold aLead
        rw [if_pos hc1, if_neg (show ¬ FF.1 0 = 0 by rw [← he.1.1]; exact h11)]
      exact ⟨rfl, by rw [e1, ansR_0]; exact congrArg (fun z => Sum.inl (some (Value.int z))) e8, ⟨⟨_, _, _, _, w3R2, w3F, wT3, w3P, hru2, he, hok⟩, (((xx_same.rf (b := b + 16) (e := b + 46)).trans sP2).trans (sT3.wide (by omega) (by omega)))⟩⟩
    · refine J_throw (text := "there are no wrestlers") hst dX6_leaderAfter_14 dX6_leaderAfter_17 dX6_leaderAfter_18 dX6_leaderAfter_20 dX6_leaderAfter_23 (by decide) cl_X6_51 in_java_lang_IllegalStateException th3_X6_55 th4_X6_55 (by decide +kernel) rfl ⟨by decide, by decide⟩ (by decide) (by decide) ?_
      have e0 : (aLead ru nw nb F w) = (aLead ru nw nb FF w) := aLead_c hrv hrc he hok
      have e1 : (aLead ru nw nb F w) = (2, 0) := by unfold aLead; rw [if_pos hc1, if_pos (show F.1 0 = 0 from h11)]
      exact ⟨rfl, by rw [← e0, e1]; exact (ansR_k (ex := exB eIA eIS) (c := 2) (by decide)).symm, ⟨⟨_, _, _, _, hR, hF, hF2, hP, hru, he, hok⟩, (xx_same.rf (b := b + 16) (e := b + 46))⟩⟩
  · obtain ⟨en1, eA1, eE1, hc1⟩ := nQ_x hQ1
    subst en1; subst eA1; subst eE1
    refine JX_out rfl (by decide) (by decide) ?_
    have e0 : (aLead ru nw nb F w) = (aLead ru nw nb FF w) := aLead_c hrv hrc he hok
    have e1 : (aLead ru nw nb F w) = (1, 0) := by unfold aLead; rw [if_neg hc1]
    exact ⟨rfl, by rw [← e0, e1]; exact (ansR_k (ex := exB eIA eIS) (c := 1) (by decide)).symm, ⟨⟨_, _, _, _, hR, hF, hF2, hP, hru, he, hok⟩, (xx_same.rf (b := b + 16) (e := b + 46))⟩⟩
set_option maxHeartbeats 1000000 in
theorem c_X6_pointsAfter (hst : l.stackTraces = false) (hX : xx_w b (layX b) A) (hG : gI b ru cr nw nb r FF A) (w v : Int32) (hrv : ∀ F i j, ru F i j = 0 ∨ ru F i j = 1 ∨ ru F i j = 2) (hrc : ∀ nb F F' i j, eqF nw nb F F' → i < nw → j < nw → ru F i j = ru F' i j) : xx_C G l yX6_pointsAfter mX6_pointsAfter 32 748 2 12 [.ref b, .int w, .int v] A n (xQ (exB eIO eIA) (aPtA ru nw nb FF w v) n (fun A' => gI b ru cr nw nb r FF A' ∧ xx_same (b + 16) (b + 46) A A')) := by
  obtain ⟨R, F, F2, PS, hR, hF, hF2, hP, hru, he, hok⟩ := hG
  have hn : F.1 0 = nI nw := hok.1.1
  have h12 := hok.1.2
  have hb : F.1 5 = nI nb := hok.2.1.1
  have h6 := hok.2.1.2
  refine J_C hst (by decide +kernel) rfl rfl rfl (Nat.le_of_ble_eq_true rfl) ?_
  show xx_J _ _ _ _ _ _ _ _ 0 [(0, _), (1, _), (2, _)] [] _ _ _ _
  refine J_aload_n dX6_pointsAfter_0 rfl rfl ?_
  refine J_iload_n dX6_pointsAfter_1 rfl rfl ?_
  refine J_callV (As := [_]) dX6_pointsAfter_2 ml_X6_109 cal_X6_needWrestler im_X6_needWrestler se_X6_needWrestler (hX.at 0 rfl) rfl rfl rfl (Nat.le_of_ble_eq_true rfl) ⟨by decide, by decide⟩ ⟨by decide, by decide⟩ (c_X6_needWrestler hst hX hF w) (fun E1 A1 n1 _ hQ1 => ?_) (fun v1 A1 n1 _ hQ1 => ?_)
  · obtain ⟨en1, eA1, eE1, hc1⟩ := nQ_x hQ1
    subst en1; subst eA1; subst eE1
    refine JX_out rfl (by decide) (by decide) ?_
    have e0 : (aPtA ru nw nb F w v) = (aPtA ru nw nb FF w v) := aPtA_c hrv hrc he hok
    have e1 : (aPtA ru nw nb F w v) = (1, 0) := by unfold aPtA; rw [if_neg hc1]
    exact ⟨rfl, by rw [← e0, e1]; exact (ansR_k (ex := exB eIO eIA) (c := 1) (by decide)).symm, ⟨⟨_, _, _, _, hR, hF, hF2, hP, hru, he, hok⟩, (xx_same.rf (b := b + 16) (e := b + 46))⟩⟩
  · obtain ⟨en1, eA1, eE1, hc1⟩ := nQ_v hQ1
    subst en1; subst eA1; subst eE1
    obtain ⟨ex1, ei1⟩ := hc1.i hn h12
    refine J_iload_n dX6_pointsAfter_5 rfl rfl ?_
    refine J_callSg (As := [_]) dX6_pointsAfter_6 ml_X6_204 cal_X6_needRoundsAhead rfl sm_X6_needRoundsAhead rfl (Nat.le_of_ble_eq_true rfl) ⟨by decide, by decide⟩ ⟨by decide, by decide⟩ (c_X6_needRoundsAhead hst v) (fun v2 A2 n2 _ hQ2 => ?_) (fun E2 A2 n2 _ hQ2 => ?_)
    · obtain ⟨en2, eA2, eE2, hc2⟩ := nQ_v hQ2
      subst en2; subst eA2; subst eE2
      skip
      refine J_aload_n dX6_pointsAfter_9 rfl rfl ?_
      refine J_iload_n dX6_pointsAfter_10 rfl rfl ?_
      refine J_callVw (As := [_]) dX6_pointsAfter_11 ml_X6_209 cal_X6_playTrial im_X6_playTrial se_X6_playTrial (hX.at 0 rfl) rfl rfl rfl (Nat.le_of_ble_eq_true rfl) ⟨by decide, by decide⟩ ⟨by decide, by decide⟩ (c_X6_playTrial hst hX hR hF hF2 hP hru he hok hrv hrc (m := wi v) (r10 hc2).1 (r10 hc2).2) (fun A3 hQ3 => ?_)
      obtain ⟨R3, T3, PS3, nbg, rg, hru3, wR3, wF3, wT3, wP3, heg, hokg, sP3⟩ := hQ3
      have w3X := hX.s2 sP3 (m := 1) rfl (by omega)
      refine J_aload_n dX6_pointsAfter_14 rfl rfl ?_
      refine J_getf dX6_pointsAfter_15 fl_X6_35 (w3X.at 0 rfl) rfl ?_
      refine J_iconst (v := 1) dX6_pointsAfter_18 (by decide) ?_
      refine J_iload_n dX6_pointsAfter_19 rfl rfl ?_
      refine J_callVr (As := [_, _]) dX6_pointsAfter_20 ml_X6_112 cal_X0_of im_X0_of se_X0_of (wT3.at 0 rfl) rfl rfl rfl (Nat.le_of_ble_eq_true rfl) ⟨by decide, by decide⟩ ⟨by decide, by decide⟩ (c_X0_of hst wT3 hokg.1.1 h12 (q := 1) rfl (by decide) ex1 ei1) ?_
      refine J_ireturn dX6_pointsAfter_23 rfl rfl (by decide) (by decide) ?_
      have e1 : aPtA ru nw nb FF w v = (0, (gaF ru nw nb (wi v) FF).2 2 (1 * 12 + wi w)) := by
        unfold aPtA
        rw [if_pos (he.oW.mp hc1), if_pos hc2]
      exact ⟨rfl, by rw [e1, ansR_0]; exact congrArg (fun z => Sum.inl (some (Value.int z))) (heg.2.2.1 1 _ (by decide) ei1), ⟨⟨_, _, _, _, wR3, wF3, wT3, wP3, hru3, he, hok⟩, ((xx_same.rf (b := b + 16) (e := b + 46)).trans sP3)⟩⟩
    · obtain ⟨en2, eA2, eE2, hc2⟩ := nQ_x hQ2
      subst en2; subst eA2; subst eE2
      refine JX_out rfl (by decide) (by decide) ?_
      have e0 : (aPtA ru nw nb F w v) = (aPtA ru nw nb FF w v) := aPtA_c hrv hrc he hok
      have e1 : (aPtA ru nw nb F w v) = (2, 0) := by unfold aPtA; rw [if_pos hc1, if_neg hc2]
      exact ⟨rfl, by rw [← e0, e1]; exact (ansR_k (ex := exB eIO eIA) (c := 2) (by decide)).symm, ⟨⟨_, _, _, _, hR, hF, hF2, hP, hru, he, hok⟩, (xx_same.rf (b := b + 16) (e := b + 46))⟩⟩
end XCC
