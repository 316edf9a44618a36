/-! READER: lines, the rest -/
section XRL
variable {G : xx_G} {l : Launch} {A A' : xx_H} {n : Nat} {b bt bu : Nat} {D T R : xS} {sg : Nat → Option Nat} {T0 : xS} {len tok k : Nat}
set_option maxHeartbeats 4000000 in
theorem c_X2_readWrestler (hst : l.stackTraces = false) (hW : rdW b D T R sg A) (hc : tkc T0 len tok sg T) (hat : D.1 6 = nI k) (hk : k < tok) {nw : Nat} (hw : D.1 5 = nI nw) (h12 : nw ≤ 12) {nm : Nat → Nat} (hnm : ∀ i, i < nw → D.2 13 i = nI (nm i) ∧ nm i < tok) : xx_C G l yX2_readWrestler mX2_readWrestler 4 87 0 0 [.ref b] A n (lnQ b n T sg (wrsW (scG T0 len) k).1 (wrsW (scG T0 len) k).2.1 (fun D' R' => R' = R ∧ D'.2 14 = D.2 14 ∧ (D'.1 7, D'.1 8) = noteC (noteC (D.1 7, D.1 8) (if dupN T0 len nm k nw = true then 2 else if nw = 12 then 4 else 0) (T.2 3 k)) (if (tkN T0 len (k + 2)) < 1 ∨ 999 < (tkN T0 len (k + 2)) then 5 else 0) (T.2 3 (k + 2)) ∧ (nw < 12 → D'.1 5 = nI (nw + 1) ∧ D'.2 13 = upd (D.2 13) nw (nI k) ∧ D'.2 12 = upd (D.2 12) nw (tkN T0 len (k + 2))) ∧ (nw = 12 → D'.1 5 = nI 12 ∧ D'.2 = D.2)) A) := by
  obtain ⟨hD, hT, hR⟩ := hW
  obtain ⟨hl1, hl2, ht0, ht1, hscn, hnx, hlast⟩ := id hc
  have hDa := wD_at hD hat
  refine J_C hst (by decide +kernel) rfl rfl rfl (Nat.le_of_ble_eq_true rfl) ?_
  show xx_J _ _ _ _ _ _ _ _ 0 [(0, _)] [] _ _ _ _
  refine J_aload_n dX2_readWrestler_0 rfl rfl ?_
  refine J_gets (v := .ref 35) dX2_readWrestler_1 (gs_mem 35 (by decide)) (show (35 : Nat) < 400 by decide) sl_X2_96 ?_
  refine J_callVr (As := [_]) dX2_readWrestler_4 ml_X2_57 cal_X2_sees im_X2_sees se_X2_sees (hDa.at 0 rfl) rfl rfl rfl (Nat.le_of_ble_eq_true rfl) ⟨by decide, by decide⟩ ⟨by decide, by decide⟩ (c_X2_sees hst ⟨hDa, hT, hR⟩ hc hk (v := 35) (by decide)) ?_
  refine J_ifb_ne (tgt := 12) dX2_readWrestler_7 rfl (fun h7 => ?_) (fun h7 => ?_)
  · refine J_aload_n dX2_readWrestler_12 rfl rfl ?_
    refine J_callVw (As := []) dX2_readWrestler_13 ml_X2_99 cal_X2_checkName im_X2_checkName se_X2_checkName (hDa.at 0 rfl) rfl rfl rfl (Nat.le_of_ble_eq_true rfl) ⟨by decide, by decide⟩ ⟨by decide, by decide⟩ (c_X2_checkName (D := atD D k) hst ⟨hDa, hT, hR⟩ hc rfl hk hw h12 hnm) (fun A1 hQ1 => ?_)
    obtain ⟨D1, ⟨wD1, wT1, wR1⟩, wS1, F1⟩ := hQ1
    have a1 : D1.1 6 = nI k := F1.2.1
    refine J_aload_n dX2_readWrestler_16 rfl rfl ?_
    refine J_getf dX2_readWrestler_17 fl_X2_39 (wD1.at 0 rfl) rfl ?_
    refine J_istore_n (L' := [(1, _), (0, _)]) dX2_readWrestler_20 rfl (by decide) rfl ?_
    refine J_aload_n dX2_readWrestler_21 rfl rfl ?_
    refine J_dup dX2_readWrestler_22 rfl ?_
    refine J_getf dX2_readWrestler_23 fl_X2_39 (wD1.at 0 rfl) rfl ?_
    refine J_iconst (v := 1) dX2_readWrestler_26 (by decide) ?_
    refine J_iadd dX2_readWrestler_27 ?_
    refine J_putf dX2_readWrestler_28 fp_X2_39 (fun _ => ⟨rfl, rfl⟩) (wD1.at 0 rfl) (Nat.le_of_ble_eq_true rfl) ?_
    refine J_gen (wD_s0_6 wD1 _) (((xx_same.rf (b := b) (e := b + 15)).trans wS1).put (by omega) (by omega) _) (fun A2 w2 s2 o2 => ?_)
    have w2R := wR1.o2 o2 (m := 6) rfl (by omega)
    have w2T := wT1.o2 o2 (m := 5) rfl (by omega)
    have w2k := wD_1 w2 a1
    have nx2 : ¬ scG T0 len k = 37 ∧ ¬ scG T0 len k = 38 := (by rw [h7]; decide)
    have hk2 : k + 1 < tok := hnx _ hk nx2.1 nx2.2
    refine J_aload_n dX2_readWrestler_31 rfl rfl ?_
    refine J_gets (v := .ref 1) dX2_readWrestler_32 (gs_mem 1 (by decide)) (show (1 : Nat) < 400 by decide) sl_X2_102 ?_
    refine J_callVw (As := [_]) dX2_readWrestler_35 ml_X2_64 cal_X2_takes im_X2_takes se_X2_takes (w2k.at 0 rfl) rfl rfl rfl (Nat.le_of_ble_eq_true rfl) ⟨by decide, by decide⟩ ⟨by decide, by decide⟩ (c_X2_takes hst ⟨w2k, w2T, w2R⟩ hc hk2 (v := 1) (by decide)) (fun A3 hQ3 => ?_)
    obtain ⟨⟨wD3, wT3, wR3⟩, wS3⟩ := hQ3
    refine J_ifb_eq (tgt := 51) dX2_readWrestler_38 rfl (fun h38 => ?_) (fun h38 => ?_)
    · have th38 : ¬ (scG T0 len (k + 1) = 1) := fun z => h38 (eat_t.mpr z)
      rw [eat_f2 th38] at wD3
      refine J_iconst (v := 0) dX2_readWrestler_51 (by decide) ?_
      refine J_ireturn dX2_readWrestler_52 rfl rfl (by decide) (by decide) ?_
      have e9 : wrsW (scG T0 len) k = (false, (k + 1), [], []) := by unfold wrsW; simp [h7, th38]
      rw [e9]
      exact lnR _ _ rfl ⟨wD3, wT3, wR3⟩ (s2.trans wS3) rfl (fun z => nomatch z)
    · have th38 := (eat_t.mp h38)
      rw [eat_t2 th38] at wD3
      have kh38 : (k + 1) + 1 < tok := hnx _ hk2 (by rw [th38]; decide) (by rw [th38]; decide)
      refine J_aload_n dX2_readWrestler_41 rfl rfl ?_
      refine J_gets (v := .ref 36) dX2_readWrestler_42 (gs_mem 36 (by decide)) (show (36 : Nat) < 400 by decide) sl_X2_105 ?_
      refine J_callVr (As := [_]) dX2_readWrestler_45 ml_X2_57 cal_X2_sees im_X2_sees se_X2_sees (wD3.at 0 rfl) rfl rfl rfl (Nat.le_of_ble_eq_true rfl) ⟨by decide, by decide⟩ ⟨by decide, by decide⟩ (c_X2_sees hst ⟨wD3, wT3, wR3⟩ hc kh38 (v := 36) (by decide)) ?_
      refine J_ifb_ne (tgt := 53) dX2_readWrestler_48 rfl (fun h48 => ?_) (fun h48 => ?_)
      · refine J_aload_n dX2_readWrestler_53 rfl rfl ?_
        refine J_iconst (v := 1) dX2_readWrestler_54 (by decide) ?_
        refine J_sipush (v := 999) dX2_readWrestler_55 (by decide) ?_
        refine J_callVw (As := [_, _]) dX2_readWrestler_58 ml_X2_108 cal_X2_takeNumber im_X2_takeNumber se_X2_takeNumber (wD3.at 0 rfl) rfl rfl rfl (Nat.le_of_ble_eq_true rfl) ⟨by decide, by decide⟩ ⟨by decide, by decide⟩ (c_X2_takeNumber hst ⟨wD3, wT3, wR3⟩ hc (D := atD D1 ((k + 1) + 1)) rfl kh38 h48 1 999) (fun A4 hQ4 => ?_)
        obtain ⟨⟨wD4, wT4, wR4⟩, wS4⟩ := hQ4
        obtain ⟨D2, eD2⟩ : ∃ z, z = tnD (atD D1 ((k + 1) + 1)) T (tkN T0 len ((k + 1) + 1)) 1 999 ((k + 1) + 1) := ⟨_, rfl⟩
        have FD2 := tnD_f (atD D1 ((k + 1) + 1)) T (tkN T0 len ((k + 1) + 1)) 1 999 ((k + 1) + 1)
        rw [← eD2] at FD2 wD4
        have aD2 : D2.1 6 = nI (((k + 1) + 1) + 1) := by rw [FD2.2.1]; exact nI_1 _
        have kD2 : ((k + 1) + 1) + 1 < tok := hnx _ kh38 (by rw [h48]; decide) (by rw [h48]; decide)
        refine J_istore_n (L' := [(2, _), (1, _), (0, _)]) dX2_readWrestler_61 rfl (by decide) rfl ?_
        refine J_aload_n dX2_readWrestler_62 rfl rfl ?_
        refine J_getf dX2_readWrestler_63 fl_X2_35 (wD4.at 0 rfl) rfl ?_
        refine J_bipush (v := 12) dX2_readWrestler_66 (by decide) ?_
        refine J_icmp_ge (tgt := 101) dX2_readWrestler_68 rfl (fun h68 => ?_) (fun h68 => ?_)
        · have hnw : nw = 12 := by
            have z : (12 : Int32) ≤ D2.1 5 := h68
            rw [FD2.1.trans (F1.1.trans hw), i_le, i_n (by omega), i_12] at z
            omega
          refine J_iconst (v := 1) dX2_readWrestler_101 (by decide) ?_
          refine J_ireturn dX2_readWrestler_102 rfl rfl (by decide) (by decide) ?_
          have e9 : wrsW (scG T0 len) k = (true, (((k + 1) + 1) + 1), [(k, 1), (k + 2, 3)], []) := by unfold wrsW; simp [h7, th38, h48]
          rw [e9]
          have q5 : D2.1 5 = nI nw := FD2.1.trans (F1.1.trans hw)
          have q2 : D2.2 = D.2 := FD2.2.2.1.trans F1.2.2.1
          refine lnR _ _ rfl ⟨wD4, wT4, wR4⟩ ((s2.trans wS3).trans wS4) aD2 (fun _ => ⟨rfl, ?_, ?_, ?_, ?_⟩)
          · show D2.2 14 = _
            rw [q2]
          · show (D2.1 7, D2.1 8) = _
            rw [FD2.2.2.2]
            show noteC (D1.1 7, D1.1 8) _ _ = _
            rw [F1.2.2.2]
            rfl
          · intro z
            exact absurd z (by omega)
          · intro z
            exact ⟨by rw [q5, z], q2⟩
        · have hnw : nw < 12 := by
            have z : ¬ (12 : Int32) ≤ D2.1 5 := h68
            rw [FD2.1.trans (F1.1.trans hw), i_le, i_n (by omega), i_12] at z
            omega
          refine J_aload_n dX2_readWrestler_71 rfl rfl ?_
          refine J_getf dX2_readWrestler_72 fl_X2_29 (wD4.at 0 rfl) rfl ?_
          refine J_aload_n dX2_readWrestler_75 rfl rfl ?_
          refine J_getf dX2_readWrestler_76 fl_X2_35 (wD4.at 0 rfl) rfl ?_
          refine J_iload_n dX2_readWrestler_79 rfl rfl ?_
          refine J_iastN nw dX2_readWrestler_80 (wD4.at 2 rfl) (FD2.1.trans (F1.1.trans hw)) (by omega) (by decide) ?_
          refine J_gen (wD_a13 wD4 _) (((s2.trans wS3).trans wS4).put (by omega) (by omega) _) (fun A5 w5 s5 o5 => ?_)
          have w5R := wR4.o2 o5 (m := 6) rfl (by omega)
          have w5T := wT4.o2 o5 (m := 5) rfl (by omega)
          refine J_aload_n dX2_readWrestler_81 rfl rfl ?_
          refine J_getf dX2_readWrestler_82 fl_X2_25 (w5.at 0 rfl) rfl ?_
          refine J_aload_n dX2_readWrestler_85 rfl rfl ?_
          refine J_getf dX2_readWrestler_86 fl_X2_35 (w5.at 0 rfl) rfl ?_
          refine J_iload_n dX2_readWrestler_89 rfl rfl ?_
          refine J_iastN nw dX2_readWrestler_90 (w5.at 1 rfl) (FD2.1.trans (F1.1.trans hw)) (by omega) (by decide) ?_
          refine J_gen (wD_a12 w5 _) (s5.put (by omega) (by omega) _) (fun A6 w6 s6 o6 => ?_)
          have w6R := w5R.o2 o6 (m := 6) rfl (by omega)
          have w6T := w5T.o2 o6 (m := 5) rfl (by omega)
          refine J_aload_n dX2_readWrestler_91 rfl rfl ?_
          refine J_dup dX2_readWrestler_92 rfl ?_
          refine J_getf dX2_readWrestler_93 fl_X2_35 (w6.at 0 rfl) rfl ?_
          refine J_iconst (v := 1) dX2_readWrestler_96 (by decide) ?_
          refine J_iadd dX2_readWrestler_97 ?_
          refine J_putf dX2_readWrestler_98 fp_X2_35 (fun _ => ⟨rfl, rfl⟩) (w6.at 0 rfl) (Nat.le_of_ble_eq_true rfl) ?_
          refine J_gen (wD_s0_5 w6 _) (s6.put (by omega) (by omega) _) (fun A7 w7 s7 o7 => ?_)
          have w7R := w6R.o2 o7 (m := 6) rfl (by omega)
          have w7T := w6T.o2 o7 (m := 5) rfl (by omega)
          refine J_iconst (v := 1) dX2_readWrestler_101 (by decide) ?_
          refine J_ireturn dX2_readWrestler_102 rfl rfl (by decide) (by decide) ?_
          have e9 : wrsW (scG T0 len) k = (true, (((k + 1) + 1) + 1), [(k, 1), (k + 2, 3)], []) := by unfold wrsW; simp [h7, th38, h48]
          rw [e9]
          have q5 : D2.1 5 = nI nw := FD2.1.trans (F1.1.trans hw)
          have q2 : D2.2 = D.2 := FD2.2.2.1.trans F1.2.2.1
          refine lnR _ _ rfl ⟨w7, w7T, w7R⟩ s7 aD2 (fun _ => ⟨rfl, ?_, ?_, ?_, ?_⟩)
          · show D2.2 14 = _
            rw [q2]
          · show (D2.1 7, D2.1 8) = _
            rw [FD2.2.2.2]
            show noteC (D1.1 7, D1.1 8) _ _ = _
            rw [F1.2.2.2]
            rfl
          · intro _
            refine ⟨?_, ?_, ?_⟩
            · show D2.1 5 + 1 = _
              rw [q5]; exact nI_1 nw
            · show upd (D2.2 13) nw (D1.1 6) = _
              rw [q2, a1]
            · show upd (D2.2 12) nw _ = _
              rw [q2]
          · intro z
            exact absurd z (by omega)
      · refine J_iconst (v := 0) dX2_readWrestler_51 (by decide) ?_
        refine J_ireturn dX2_readWrestler_52 rfl rfl (by decide) (by decide) ?_
        have e9 : wrsW (scG T0 len) k = (false, ((k + 1) + 1), [], []) := by unfold wrsW; simp [h7, th38, h48]
        rw [e9]
        exact lnR _ _ rfl ⟨wD3, wT3, wR3⟩ (s2.trans wS3) rfl (fun z => nomatch z)
  · refine J_iconst (v := 0) dX2_readWrestler_10 (by decide) ?_
    refine J_ireturn dX2_readWrestler_11 rfl rfl (by decide) (by decide) ?_
    have e9 : wrsW (scG T0 len) k = (false, k, [], []) := by unfold wrsW; simp [h7]
    rw [e9]
    exact lnR _ _ rfl ⟨hDa, hT, hR⟩ (xx_same.rf (b := b) (e := b + 15)) rfl (fun z => nomatch z)
set_option maxHeartbeats 4000000 in
theorem c_X2_readPoints (hst : l.stackTraces = false) (hW : rdW b D T R sg A) (hc : tkc T0 len tok sg T) (hat : D.1 6 = nI k) (hk : k < tok) : xx_C G l yX2_readPoints mX2_readPoints 4 87 0 0 [.ref b] A n (lnQ b n T sg (ptsW (scG T0 len) k).1 (ptsW (scG T0 len) k).2.1 (fun D' R' => R' = R ∧ D'.1 5 = D.1 5 ∧ D'.2 12 = D.2 12 ∧ D'.2 13 = D.2 13 ∧ D'.2 14 = upd (upd (upd (D.2 14) 0 (tkN T0 len k)) 1 (tkN T0 len (k + 1))) 2 (tkN T0 len (k + 2)) ∧ (D'.1 7, D'.1 8) = (noteC (noteC (noteC (D.1 7, D.1 8) (if (tkN T0 len k) < 0 ∨ 9 < (tkN T0 len k) then 5 else 0) (T.2 3 k)) (if (tkN T0 len (k + 1)) < 0 ∨ 9 < (tkN T0 len (k + 1)) then 5 else 0) (T.2 3 (k + 1))) (if (tkN T0 len (k + 2)) < 0 ∨ 9 < (tkN T0 len (k + 2)) then 5 else 0) (T.2 3 (k + 2)))) A) := by
  obtain ⟨hD, hT, hR⟩ := hW
  obtain ⟨hl1, hl2, ht0, ht1, hscn, hnx, hlast⟩ := id hc
  have hDa := wD_at hD hat
  refine J_C hst (by decide +kernel) rfl rfl rfl (Nat.le_of_ble_eq_true rfl) ?_
  show xx_J _ _ _ _ _ _ _ _ 0 [(0, _)] [] _ _ _ _
  refine J_iconst (v := 0) dX2_readPoints_0 (by decide) ?_
  refine J_istore_n (L' := [(1, _), (0, _)]) dX2_readPoints_1 rfl (by decide) rfl ?_
  refine J_iload_n dX2_readPoints_2 rfl rfl ?_
  refine J_iconst (v := 3) dX2_readPoints_3 (by decide) ?_
  refine J_icmp_ge (tgt := 38) dX2_readPoints_4 rfl (fun h4 => ?_) (fun h4 => ?_)
  · first | exact absurd h4 (by decide) | exact absurd (by decide) h4
  · refine J_aload_n dX2_readPoints_7 rfl rfl ?_
    refine J_gets (v := .ref 36) dX2_readPoints_8 (gs_mem 36 (by decide)) (show (36 : Nat) < 400 by decide) sl_X2_105 ?_
    refine J_callVr (As := [_]) dX2_readPoints_11 ml_X2_57 cal_X2_sees im_X2_sees se_X2_sees (hDa.at 0 rfl) rfl rfl rfl (Nat.le_of_ble_eq_true rfl) ⟨by decide, by decide⟩ ⟨by decide, by decide⟩ (c_X2_sees hst ⟨hDa, hT, hR⟩ hc hk (v := 36) (by decide)) ?_
    refine J_ifb_ne (tgt := 19) dX2_readPoints_14 rfl (fun h14 => ?_) (fun h14 => ?_)
    · refine J_aload_n dX2_readPoints_19 rfl rfl ?_
      refine J_getf dX2_readPoints_20 fl_X2_32 (hDa.at 0 rfl) rfl ?_
      refine J_iload_n dX2_readPoints_23 rfl rfl ?_
      refine J_aload_n dX2_readPoints_24 rfl rfl ?_
      refine J_iconst (v := 0) dX2_readPoints_25 (by decide) ?_
      refine J_bipush (v := 9) dX2_readPoints_26 (by decide) ?_
      refine J_callVw (As := [_, _]) dX2_readPoints_28 ml_X2_108 cal_X2_takeNumber im_X2_takeNumber se_X2_takeNumber (hDa.at 0 rfl) rfl rfl rfl (Nat.le_of_ble_eq_true rfl) ⟨by decide, by decide⟩ ⟨by decide, by decide⟩ (c_X2_takeNumber hst ⟨hDa, hT, hR⟩ hc (D := atD D k) rfl hk h14 0 9) (fun A1 hQ1 => ?_)
      obtain ⟨⟨wD1, wT1, wR1⟩, wS1⟩ := hQ1
      obtain ⟨P0, eP0⟩ : ∃ z, z = tnD (atD D k) T (tkN T0 len k) 0 9 k := ⟨_, rfl⟩
      have FP0 := tnD_f (atD D k) T (tkN T0 len k) 0 9 k
      rw [← eP0] at FP0 wD1
      have aP0 : P0.1 6 = nI (k + 1) := by rw [FP0.2.1]; exact nI_1 _
      have kP0 : k + 1 < tok := hnx _ hk (by rw [h14]; decide) (by rw [h14]; decide)
      have q0 := h14
      refine J_iastN 0 dX2_readPoints_31 (wD1.at 3 rfl) rfl (by decide) (by decide) ?_
      refine J_gen (wD_a14 wD1 _) (((xx_same.rf (b := b) (e := b + 15)).trans wS1).put (by omega) (by omega) _) (fun A2 w2 s2 o2 => ?_)
      have w2R := wR1.o2 o2 (m := 6) rfl (by omega)
      have w2T := wT1.o2 o2 (m := 5) rfl (by omega)
      have aS0 : (a_up P0 14 (upd (P0.2 14) 0 (tkN T0 len k))).1 6 = nI (k + 1) := aP0
      have wS0D := wD_at w2 aS0
      refine J_iinc (v := _ + 1) (L' := [(1, _), (0, _)]) dX2_readPoints_32 rfl rfl (by decide) rfl ?_
      refine J_goto (tgt := 2) dX2_readPoints_35 rfl ?_
      refine J_iload_n dX2_readPoints_2 rfl rfl ?_
      refine J_iconst (v := 3) dX2_readPoints_3 (by decide) ?_
      refine J_icmp_ge (tgt := 38) dX2_readPoints_4 rfl (fun h4 => ?_) (fun h4 => ?_)
      · first | exact absurd h4 (by decide) | exact absurd (by decide) h4
      · refine J_aload_n dX2_readPoints_7 rfl rfl ?_
        refine J_gets (v := .ref 36) dX2_readPoints_8 (gs_mem 36 (by decide)) (show (36 : Nat) < 400 by decide) sl_X2_105 ?_
        refine J_callVr (As := [_]) dX2_readPoints_11 ml_X2_57 cal_X2_sees im_X2_sees se_X2_sees (wS0D.at 0 rfl) rfl rfl rfl (Nat.le_of_ble_eq_true rfl) ⟨by decide, by decide⟩ ⟨by decide, by decide⟩ (c_X2_sees hst ⟨wS0D, w2T, w2R⟩ hc kP0 (v := 36) (by decide)) ?_
        refine J_ifb_ne (tgt := 19) dX2_readPoints_14 rfl (fun h14 => ?_) (fun h14 => ?_)
        · refine J_aload_n dX2_readPoints_19 rfl rfl ?_
          refine J_getf dX2_readPoints_20 fl_X2_32 (wS0D.at 0 rfl) rfl ?_
          refine J_iload_n dX2_readPoints_23 rfl rfl ?_
          refine J_aload_n dX2_readPoints_24 rfl rfl ?_
          refine J_iconst (v := 0) dX2_readPoints_25 (by decide) ?_
          refine J_bipush (v := 9) dX2_readPoints_26 (by decide) ?_
          refine J_callVw (As := [_, _]) dX2_readPoints_28 ml_X2_108 cal_X2_takeNumber im_X2_takeNumber se_X2_takeNumber (wS0D.at 0 rfl) rfl rfl rfl (Nat.le_of_ble_eq_true rfl) ⟨by decide, by decide⟩ ⟨by decide, by decide⟩ (c_X2_takeNumber hst ⟨wS0D, w2T, w2R⟩ hc (D := atD (a_up P0 14 (upd (P0.2 14) 0 (tkN T0 len k))) (k + 1)) rfl kP0 h14 0 9) (fun A3 hQ3 => ?_)
          obtain ⟨⟨wD3, wT3, wR3⟩, wS3⟩ := hQ3
          obtain ⟨P1, eP1⟩ : ∃ z, z = tnD (atD (a_up P0 14 (upd (P0.2 14) 0 (tkN T0 len k))) (k + 1)) T (tkN T0 len (k + 1)) 0 9 (k + 1) := ⟨_, rfl⟩
          have FP1 := tnD_f (atD (a_up P0 14 (upd (P0.2 14) 0 (tkN T0 len k))) (k + 1)) T (tkN T0 len (k + 1)) 0 9 (k + 1)
          rw [← eP1] at FP1 wD3
          have aP1 : P1.1 6 = nI ((k + 1) + 1) := by rw [FP1.2.1]; exact nI_1 _
          have kP1 : (k + 1) + 1 < tok := hnx _ kP0 (by rw [h14]; decide) (by rw [h14]; decide)
          have q1 := h14
          refine J_iastN 1 dX2_readPoints_31 (wD3.at 3 rfl) rfl (by decide) (by decide) ?_
          refine J_gen (wD_a14 wD3 _) ((s2.trans wS3).put (by omega) (by omega) _) (fun A4 w4 s4 o4 => ?_)
          have w4R := wR3.o2 o4 (m := 6) rfl (by omega)
          have w4T := wT3.o2 o4 (m := 5) rfl (by omega)
          have aS1 : (a_up P1 14 (upd (P1.2 14) 1 (tkN T0 len (k + 1)))).1 6 = nI (k + 2) := aP1
          have wS1D := wD_at w4 aS1
          refine J_iinc (v := _ + 1) (L' := [(1, _), (0, _)]) dX2_readPoints_32 rfl rfl (by decide) rfl ?_
          refine J_goto (tgt := 2) dX2_readPoints_35 rfl ?_
          refine J_iload_n dX2_readPoints_2 rfl rfl ?_
          refine J_iconst (v := 3) dX2_readPoints_3 (by decide) ?_
          refine J_icmp_ge (tgt := 38) dX2_readPoints_4 rfl (fun h4 => ?_) (fun h4 => ?_)
          · first | exact absurd h4 (by decide) | exact absurd (by decide) h4
          · refine J_aload_n dX2_readPoints_7 rfl rfl ?_
            refine J_gets (v := .ref 36) dX2_readPoints_8 (gs_mem 36 (by decide)) (show (36 : Nat) < 400 by decide) sl_X2_105 ?_
            refine J_callVr (As := [_]) dX2_readPoints_11 ml_X2_57 cal_X2_sees im_X2_sees se_X2_sees (wS1D.at 0 rfl) rfl rfl rfl (Nat.le_of_ble_eq_true rfl) ⟨by decide, by decide⟩ ⟨by decide, by decide⟩ (c_X2_sees hst ⟨wS1D, w4T, w4R⟩ hc kP1 (v := 36) (by decide)) ?_
            refine J_ifb_ne (tgt := 19) dX2_readPoints_14 rfl (fun h14 => ?_) (fun h14 => ?_)
            · refine J_aload_n dX2_readPoints_19 rfl rfl ?_
              refine J_getf dX2_readPoints_20 fl_X2_32 (wS1D.at 0 rfl) rfl ?_
              refine J_iload_n dX2_readPoints_23 rfl rfl ?_
              refine J_aload_n dX2_readPoints_24 rfl rfl ?_
              refine J_iconst (v := 0) dX2_readPoints_25 (by decide) ?_
              refine J_bipush (v := 9) dX2_readPoints_26 (by decide) ?_
              refine J_callVw (As := [_, _]) dX2_readPoints_28 ml_X2_108 cal_X2_takeNumber im_X2_takeNumber se_X2_takeNumber (wS1D.at 0 rfl) rfl rfl rfl (Nat.le_of_ble_eq_true rfl) ⟨by decide, by decide⟩ ⟨by decide, by decide⟩ (c_X2_takeNumber hst ⟨wS1D, w4T, w4R⟩ hc (D := atD (a_up P1 14 (upd (P1.2 14) 1 (tkN T0 len (k + 1)))) (k + 2)) rfl kP1 h14 0 9) (fun A5 hQ5 => ?_)
              obtain ⟨⟨wD5, wT5, wR5⟩, wS5⟩ := hQ5
              obtain ⟨P2, eP2⟩ : ∃ z, z = tnD (atD (a_up P1 14 (upd (P1.2 14) 1 (tkN T0 len (k + 1)))) (k + 2)) T (tkN T0 len (k + 2)) 0 9 (k + 2) := ⟨_, rfl⟩
              have FP2 := tnD_f (atD (a_up P1 14 (upd (P1.2 14) 1 (tkN T0 len (k + 1)))) (k + 2)) T (tkN T0 len (k + 2)) 0 9 (k + 2)
              rw [← eP2] at FP2 wD5
              have aP2 : P2.1 6 = nI ((k + 2) + 1) := by rw [FP2.2.1]; exact nI_1 _
              have kP2 : (k + 2) + 1 < tok := hnx _ kP1 (by rw [h14]; decide) (by rw [h14]; decide)
              have q2 := h14
              refine J_iastN 2 dX2_readPoints_31 (wD5.at 3 rfl) rfl (by decide) (by decide) ?_
              refine J_gen (wD_a14 wD5 _) ((s4.trans wS5).put (by omega) (by omega) _) (fun A6 w6 s6 o6 => ?_)
              have w6R := wR5.o2 o6 (m := 6) rfl (by omega)
              have w6T := wT5.o2 o6 (m := 5) rfl (by omega)
              have aS2 : (a_up P2 14 (upd (P2.2 14) 2 (tkN T0 len (k + 2)))).1 6 = nI (k + 3) := aP2
              have wS2D := wD_at w6 aS2
              refine J_iinc (v := _ + 1) (L' := [(1, _), (0, _)]) dX2_readPoints_32 rfl rfl (by decide) rfl ?_
              refine J_goto (tgt := 2) dX2_readPoints_35 rfl ?_
              refine J_iload_n dX2_readPoints_2 rfl rfl ?_
              refine J_iconst (v := 3) dX2_readPoints_3 (by decide) ?_
              refine J_icmp_ge (tgt := 38) dX2_readPoints_4 rfl (fun h4 => ?_) (fun h4 => ?_)
              · refine J_iconst (v := 1) dX2_readPoints_38 (by decide) ?_
                refine J_ireturn dX2_readPoints_39 rfl rfl (by decide) (by decide) ?_
                have e9 : ptsW (scG T0 len) k = (true, k + 3, [(k, 4), (k + 1, 5), (k + 2, 6)], []) := by unfold ptsW; simp [q0, q1, q2]
                rw [e9]
                refine lnR _ _ rfl ⟨wS2D, w6T, w6R⟩ s6 rfl (fun _ => ⟨rfl, ?_, ?_, ?_, ?_, ?_⟩)
                · show P2.1 5 = _
                  rw [FP2.1]; show P1.1 5 = _
                  rw [FP1.1]; show P0.1 5 = _
                  rw [FP0.1]; rfl
                · show P2.2 12 = _
                  rw [FP2.2.2.1]; show P1.2 12 = _
                  rw [FP1.2.2.1]; show P0.2 12 = _
                  rw [FP0.2.2.1]
                · show P2.2 13 = _
                  rw [FP2.2.2.1]; show P1.2 13 = _
                  rw [FP1.2.2.1]; show P0.2 13 = _
                  rw [FP0.2.2.1]
                · show upd (P2.2 14) 2 _ = _
                  rw [FP2.2.2.1]; show upd (upd (P1.2 14) 1 _) 2 _ = _
                  rw [FP1.2.2.1]; show upd (upd (upd (P0.2 14) 0 _) 1 _) 2 _ = _
                  rw [FP0.2.2.1]
                · show (P2.1 7, P2.1 8) = _
                  rw [FP2.2.2.2]; show noteC (P1.1 7, P1.1 8) _ _ = _
                  rw [FP1.2.2.2]; show noteC (noteC (P0.1 7, P0.1 8) _ _) _ _ = _
                  rw [FP0.2.2.2]; rfl
              · first | exact absurd h4 (by decide) | exact absurd (by decide) h4
            · refine J_iconst (v := 0) dX2_readPoints_17 (by decide) ?_
              refine J_ireturn dX2_readPoints_18 rfl rfl (by decide) (by decide) ?_
              have e9 : ptsW (scG T0 len) k = (false, (k + 2), [], []) := by unfold ptsW; simp [q0, q1, h14]
              rw [e9]
              exact lnR _ _ rfl ⟨wS1D, w4T, w4R⟩ s4 rfl (fun z => nomatch z)
        · refine J_iconst (v := 0) dX2_readPoints_17 (by decide) ?_
          refine J_ireturn dX2_readPoints_18 rfl rfl (by decide) (by decide) ?_
          have e9 : ptsW (scG T0 len) k = (false, (k + 1), [], []) := by unfold ptsW; simp [q0, h14]
          rw [e9]
          exact lnR _ _ rfl ⟨wS0D, w2T, w2R⟩ s2 rfl (fun z => nomatch z)
    · refine J_iconst (v := 0) dX2_readPoints_17 (by decide) ?_
      refine J_ireturn dX2_readPoints_18 rfl rfl (by decide) (by decide) ?_
      have e9 : ptsW (scG T0 len) k = (false, k, [], []) := by unfold ptsW; simp [h14]
      rw [e9]
      exact lnR _ _ rfl ⟨hDa, hT, hR⟩ (xx_same.rf (b := b) (e := b + 15)) rfl (fun z => nomatch z)
set_option maxHeartbeats 4000000 in
theorem c_X2_readOutcome (hst : l.stackTraces = false) {k : Nat} (hW : rdW b (atD D k) T R sg A) (hc : tkc T0 len tok sg T) (hk : k < tok) : xx_C G l yX2_readOutcome mX2_readOutcome 2 42 0 0 [.ref b] A n (xx_wr (some (.int (oucW (scG T0 len) k).1)) n (fun A' => rdW b (atD D (oucW (scG T0 len) k).2) T R sg A' ∧ xx_same b (b + 15) A A')) := by
  obtain ⟨hD, hT, hR⟩ := hW
  obtain ⟨hl1, hl2, ht0, ht1, hscn, hnx, hlast⟩ := id hc
  refine J_C hst (by decide +kernel) rfl rfl rfl (Nat.le_of_ble_eq_true rfl) ?_
  show xx_J _ _ _ _ _ _ _ _ 0 [(0, _)] [] _ _ _ _
  refine J_aload_n dX2_readOutcome_0 rfl rfl ?_
  refine J_gets (v := .ref 3) dX2_readOutcome_1 (gs_mem 3 (by decide)) (show (3 : Nat) < 400 by decide) sl_X2_138 ?_
  refine J_callVw (As := [_]) dX2_readOutcome_4 ml_X2_64 cal_X2_takes im_X2_takes se_X2_takes (hD.at 0 rfl) rfl rfl rfl (Nat.le_of_ble_eq_true rfl) ⟨by decide, by decide⟩ ⟨by decide, by decide⟩ (c_X2_takes hst ⟨hD, hT, hR⟩ hc hk (v := 3) (by decide)) (fun A1 hQ1 => ?_)
  obtain ⟨⟨wD1, wT1, wR1⟩, wS1⟩ := hQ1
  refine J_ifb_eq (tgt := 12) dX2_readOutcome_7 rfl (fun h7 => ?_) (fun h7 => ?_)
  · have th7 : ¬ (scG T0 len k = 3) := fun z => h7 (eat_t.mpr z)
    rw [eat_f2 th7] at wD1
    refine J_aload_n dX2_readOutcome_12 rfl rfl ?_
    refine J_gets (v := .ref 6) dX2_readOutcome_13 (gs_mem 6 (by decide)) (show (6 : Nat) < 400 by decide) sl_X2_141 ?_
    refine J_callVr (As := [_]) dX2_readOutcome_16 ml_X2_57 cal_X2_sees im_X2_sees se_X2_sees (wD1.at 0 rfl) rfl rfl rfl (Nat.le_of_ble_eq_true rfl) ⟨by decide, by decide⟩ ⟨by decide, by decide⟩ (c_X2_sees hst ⟨wD1, wT1, wR1⟩ hc hk (v := 6) (by decide)) ?_
    refine J_ifb_eq (tgt := 26) dX2_readOutcome_19 rfl (fun h19 => ?_) (fun h19 => ?_)
    · refine J_aload_n dX2_readOutcome_26 rfl rfl ?_
      refine J_gets (v := .ref 7) dX2_readOutcome_27 (gs_mem 7 (by decide)) (show (7 : Nat) < 400 by decide) sl_X2_144 ?_
      refine J_callVr (As := [_]) dX2_readOutcome_30 ml_X2_57 cal_X2_sees im_X2_sees se_X2_sees (wD1.at 0 rfl) rfl rfl rfl (Nat.le_of_ble_eq_true rfl) ⟨by decide, by decide⟩ ⟨by decide, by decide⟩ (c_X2_sees hst ⟨wD1, wT1, wR1⟩ hc hk (v := 7) (by decide)) ?_
      refine J_ifb_eq (tgt := 40) dX2_readOutcome_33 rfl (fun h33 => ?_) (fun h33 => ?_)
      · refine J_iconst (v := -1) dX2_readOutcome_40 (by decide) ?_
        refine J_istore_n (L' := [(1, _), (0, _)]) dX2_readOutcome_41 rfl (by decide) rfl ?_
        refine J_iload_n dX2_readOutcome_42 rfl rfl ?_
        refine J_iconst (v := -1) dX2_readOutcome_43 (by decide) ?_
        refine J_icmp_ne (tgt := 49) dX2_readOutcome_44 rfl (fun h44 => ?_) (fun h44 => ?_)
        · first | exact absurd h44 (by decide) | exact absurd (by decide) h44
        · refine J_iconst (v := -1) dX2_readOutcome_47 (by decide) ?_
          refine J_ireturn dX2_readOutcome_48 rfl rfl (by decide) (by decide) ?_
          have e9 : oucW (scG T0 len) k = ((-1), k) := by unfold oucW; simp [th7, h19, h33]
          rw [e9]
          exact ⟨rfl, rfl, ⟨wD1, wT1, wR1⟩, ((xx_same.rf (b := b) (e := b + 15)).trans wS1)⟩
      · refine J_iconst (v := 2) dX2_readOutcome_36 (by decide) ?_
        refine J_goto (tgt := 41) dX2_readOutcome_37 rfl ?_
        refine J_istore_n (L' := [(1, _), (0, _)]) dX2_readOutcome_41 rfl (by decide) rfl ?_
        refine J_iload_n dX2_readOutcome_42 rfl rfl ?_
        refine J_iconst (v := -1) dX2_readOutcome_43 (by decide) ?_
        refine J_icmp_ne (tgt := 49) dX2_readOutcome_44 rfl (fun h44 => ?_) (fun h44 => ?_)
        · refine J_aload_n dX2_readOutcome_49 rfl rfl ?_
          refine J_dup dX2_readOutcome_50 rfl ?_
          refine J_getf dX2_readOutcome_51 fl_X2_39 (wD1.at 0 rfl) rfl ?_
          refine J_iconst (v := 1) dX2_readOutcome_54 (by decide) ?_
          refine J_iadd dX2_readOutcome_55 ?_
          refine J_putf dX2_readOutcome_56 fp_X2_39 (fun _ => ⟨rfl, rfl⟩) (wD1.at 0 rfl) (Nat.le_of_ble_eq_true rfl) ?_
          refine J_gen (wD_s0_6 wD1 _) (((xx_same.rf (b := b) (e := b + 15)).trans wS1).put (by omega) (by omega) _) (fun A2 w2 s2 o2 => ?_)
          have w2R := wR1.o2 o2 (m := 6) rfl (by omega)
          have w2T := wT1.o2 o2 (m := 5) rfl (by omega)
          have w2k := wD_1 w2 rfl
          have nx2 : ¬ scG T0 len k = 37 ∧ ¬ scG T0 len k = 38 := (by first | (rw [h19]; decide) | (rw [h33]; decide))
          have hk2 : k + 1 < tok := hnx _ hk nx2.1 nx2.2
          refine J_aload_n dX2_readOutcome_59 rfl rfl ?_
          refine J_gets (v := .ref 8) dX2_readOutcome_60 (gs_mem 8 (by decide)) (show (8 : Nat) < 400 by decide) sl_X2_147 ?_
          refine J_callVw (As := [_]) dX2_readOutcome_63 ml_X2_64 cal_X2_takes im_X2_takes se_X2_takes (w2k.at 0 rfl) rfl rfl rfl (Nat.le_of_ble_eq_true rfl) ⟨by decide, by decide⟩ ⟨by decide, by decide⟩ (c_X2_takes hst ⟨w2k, w2T, w2R⟩ hc hk2 (v := 8) (by decide)) (fun A3 hQ3 => ?_)
          obtain ⟨⟨wD3, wT3, wR3⟩, wS3⟩ := hQ3
          refine J_ifb_eq (tgt := 73) dX2_readOutcome_66 rfl (fun h66 => ?_) (fun h66 => ?_)
          · have th66 : ¬ (scG T0 len (k + 1) = 8) := fun z => h66 (eat_t.mpr z)
            rw [eat_f2 th66] at wD3
            refine J_iconst (v := -1) dX2_readOutcome_73 (by decide) ?_
            refine J_ireturn dX2_readOutcome_74 rfl rfl (by decide) (by decide) ?_
            have e9 : oucW (scG T0 len) k = ((-1), (k + 1)) := by unfold oucW; simp [th7, h19, h33, th66]
            rw [e9]
            exact ⟨rfl, rfl, ⟨wD3, wT3, wR3⟩, (s2.trans wS3)⟩
          · have th66 := (eat_t.mp h66)
            rw [eat_t2 th66] at wD3
            have kh66 : (k + 1) + 1 < tok := hnx _ hk2 (by rw [th66]; decide) (by rw [th66]; decide)
            refine J_iload_n dX2_readOutcome_69 rfl rfl ?_
            refine J_goto (tgt := 74) dX2_readOutcome_70 rfl ?_
            refine J_ireturn dX2_readOutcome_74 rfl rfl (by decide) (by decide) ?_
            have e9 : oucW (scG T0 len) k = (2, ((k + 1) + 1)) := by unfold oucW; simp [th7, h19, h33, th66]
            rw [e9]
            exact ⟨rfl, rfl, ⟨wD3, wT3, wR3⟩, (s2.trans wS3)⟩
        · first | exact absurd h44 (by decide) | exact absurd (by decide) h44
    · refine J_iconst (v := 0) dX2_readOutcome_22 (by decide) ?_
      refine J_goto (tgt := 41) dX2_readOutcome_23 rfl ?_
      refine J_istore_n (L' := [(1, _), (0, _)]) dX2_readOutcome_41 rfl (by decide) rfl ?_
      refine J_iload_n dX2_readOutcome_42 rfl rfl ?_
      refine J_iconst (v := -1) dX2_readOutcome_43 (by decide) ?_
      refine J_icmp_ne (tgt := 49) dX2_readOutcome_44 rfl (fun h44 => ?_) (fun h44 => ?_)
      · refine J_aload_n dX2_readOutcome_49 rfl rfl ?_
        refine J_dup dX2_readOutcome_50 rfl ?_
        refine J_getf dX2_readOutcome_51 fl_X2_39 (wD1.at 0 rfl) rfl ?_
        refine J_iconst (v := 1) dX2_readOutcome_54 (by decide) ?_
        refine J_iadd dX2_readOutcome_55 ?_
        refine J_putf dX2_readOutcome_56 fp_X2_39 (fun _ => ⟨rfl, rfl⟩) (wD1.at 0 rfl) (Nat.le_of_ble_eq_true rfl) ?_
        refine J_gen (wD_s0_6 wD1 _) (((xx_same.rf (b := b) (e := b + 15)).trans wS1).put (by omega) (by omega) _) (fun A4 w4 s4 o4 => ?_)
        have w4R := wR1.o2 o4 (m := 6) rfl (by omega)
        have w4T := wT1.o2 o4 (m := 5) rfl (by omega)
        have w4k := wD_1 w4 rfl
        have nx4 : ¬ scG T0 len k = 37 ∧ ¬ scG T0 len k = 38 := (by first | (rw [h19]; decide) | (rw [h33]; decide))
        have hk4 : k + 1 < tok := hnx _ hk nx4.1 nx4.2
        refine J_aload_n dX2_readOutcome_59 rfl rfl ?_
        refine J_gets (v := .ref 8) dX2_readOutcome_60 (gs_mem 8 (by decide)) (show (8 : Nat) < 400 by decide) sl_X2_147 ?_
        refine J_callVw (As := [_]) dX2_readOutcome_63 ml_X2_64 cal_X2_takes im_X2_takes se_X2_takes (w4k.at 0 rfl) rfl rfl rfl (Nat.le_of_ble_eq_true rfl) ⟨by decide, by decide⟩ ⟨by decide, by decide⟩ (c_X2_takes hst ⟨w4k, w4T, w4R⟩ hc hk4 (v := 8) (by decide)) (fun A5 hQ5 => ?_)
        obtain ⟨⟨wD5, wT5, wR5⟩, wS5⟩ := hQ5
        refine J_ifb_eq (tgt := 73) dX2_readOutcome_66 rfl (fun h66 => ?_) (fun h66 => ?_)
        · have th66 : ¬ (scG T0 len (k + 1) = 8) := fun z => h66 (eat_t.mpr z)
          rw [eat_f2 th66] at wD5
          refine J_iconst (v := -1) dX2_readOutcome_73 (by decide) ?_
          refine J_ireturn dX2_readOutcome_74 rfl rfl (by decide) (by decide) ?_
          have e9 : oucW (scG T0 len) k = ((-1), (k + 1)) := by unfold oucW; simp [th7, h19, th66]
          rw [e9]
          exact ⟨rfl, rfl, ⟨wD5, wT5, wR5⟩, (s4.trans wS5)⟩
        · have th66 := (eat_t.mp h66)
          rw [eat_t2 th66] at wD5
          have kh66 : (k + 1) + 1 < tok := hnx _ hk4 (by rw [th66]; decide) (by rw [th66]; decide)
          refine J_iload_n dX2_readOutcome_69 rfl rfl ?_
          refine J_goto (tgt := 74) dX2_readOutcome_70 rfl ?_
          refine J_ireturn dX2_readOutcome_74 rfl rfl (by decide) (by decide) ?_
          have e9 : oucW (scG T0 len) k = (0, ((k + 1) + 1)) := by unfold oucW; simp [th7, h19, th66]
          rw [e9]
          exact ⟨rfl, rfl, ⟨wD5, wT5, wR5⟩, (s4.trans wS5)⟩
      · first | exact absurd h44 (by decide) | exact absurd (by decide) h44
  · have th7 := (eat_t.mp h7)
    rw [eat_t2 th7] at wD1
    have kh7 : k + 1 < tok := hnx _ hk (by rw [th7]; decide) (by rw [th7]; decide)
    refine J_iconst (v := 1) dX2_readOutcome_10 (by decide) ?_
    refine J_ireturn dX2_readOutcome_11 rfl rfl (by decide) (by decide) ?_
    have e9 : oucW (scG T0 len) k = (1, (k + 1)) := by unfold oucW; simp [th7]
    rw [e9]
    exact ⟨rfl, rfl, ⟨wD1, wT1, wR1⟩, ((xx_same.rf (b := b) (e := b + 15)).trans wS1)⟩
end XRL
