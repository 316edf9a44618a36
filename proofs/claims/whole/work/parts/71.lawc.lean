/-! THE LAW: its cases -/
section XLCc
variable {G : xx_G} {l : Launch} {A : xx_H} {n b bm ho i k j : Nat} {Post : xx_Q}
set_option maxHeartbeats 2000000 in
theorem lc_21 (hst : l.stackTraces = false) (hbm : b + 46 ≤ bm) (hho : ho = bm + 48) (hi : i + 6 ≤ G.2.2.2 200) (hL : G.2.2.2 200 < 2147483648) (hI : lwI b bm ho n A) (hkj : k ≤ 600900 ∧ j ≤ 7290000) (cont : ∀ A' n' k' j', lwI b bm ho n' A' → k' ≤ k + 40 → j' ≤ j + 2300 → xx_J G l mL_law 2048 84000 601024 7293034 Post 2062 [(4, .int (nI i)), (3, .ref ho), (2, .ref bm), (1, .ref b), (0, .ref 160)] [] A' n' k' j') : xx_J G l mL_law 2048 84000 601024 7293034 Post 1053 [(4, .int (nI i)), (3, .ref ho), (2, .ref bm), (1, .ref b), (0, .ref 160)] [] A n k j := by
  obtain ⟨T, len, eA, ru, cr, nw, nb, r, S, P, bp, bn, f, ⟨D, R0, sg, hX, hW, hD8, hG⟩, ⟨M, vL, nl, S1, hM, hN, hS, hS2, htp, hT1, hM3⟩, hO, ⟨hok, hpl, hru, hrv, hrc, hz⟩, hplc⟩ := hI
  obtain ⟨hap, hap2, hna, hbp, hbn, hn1, hn2, hn3⟩ := id hplc
  refine J_aload_n dL_law_1053 rfl rfl ?_
  refine J_aload_n dL_law_1054 rfl rfl ?_
  refine J_iload dL_law_1055 rfl ?_
  refine J_iconst (v := 1) dL_law_1057 (by decide) ?_
  refine J_iadd dL_law_1058 ?_
  refine J_scr (q := i + 1) dL_law_1059 (nI_add i 1) (by omega) (by omega) ?_
  refine J_aload_n dL_law_1060 rfl rfl ?_
  refine J_callSX (As := [_, _, _]) dL_law_1061 ml_L_190 cal_L_isIn rfl sm_L_isIn rfl (Nat.le_of_ble_eq_true rfl) ⟨by decide, by decide⟩ ⟨by omega, by omega⟩ (c_L_isIn (a := (aIn (fS S P) (xx_scr G (i + 1)))) hst (c_X6_isIn hst hX hG (xx_scr G (i + 1))) hX hO (fun A1 h => hO.f9 (m := 1) (fun z a c => h.2 z (by omega)) rfl) k_In z_In) (fun v1 A1 n1 _ hQ1 => ?_) (fun E A n _ hQ => absurd hQ.1 (fun z => nomatch z))
  obtain ⟨er1, en1, em1, Ak1, f1, ⟨hGk1, hsk1⟩, ho1, hO1, hf1⟩ := hQ1
  cases er1
  have fr1 : ∀ z, ¬ z = ho → (z < b + 16 ∨ b + 46 ≤ z) → A1 z = A z := fun z h1 h2 => (ho1 z h1).trans (hsk1 z h2)
  have hX1 := hX.f9 (m := 1) (fun z a c => fr1 z (by omega) (by omega)) rfl
  have hW1 := hW.fr (fun z a c => fr1 z (by omega) (by omega))
  have hG1 := hGk1.fr (fun z a c => ho1 z (by omega))
  have hM1 := hM.f9 (m := 48) (fun z a c => fr1 z (by omega) (by omega)) rfl
  have hN1 := hN.f9 (m := 9) (fun z a c => fr1 z (by omega) (by omega)) rfl
  have hS1 := hS.f9 (m := 14) (fun z a c => fr1 z (by omega) (by omega)) rfl
  have hSb1 := hS2.f9 (m := 14) (fun z a c => fr1 z (by omega) (by omega)) rfl
  refine J_istore (L' := [(5, _), (4, _), (3, _), (2, _), (1, _), (0, _)]) dL_law_1064 (by decide) rfl ?_
  refine J_aload_n dL_law_1066 rfl rfl ?_
  refine J_aload_n dL_law_1067 rfl rfl ?_
  refine J_iload dL_law_1068 rfl ?_
  refine J_iconst (v := 1) dL_law_1070 (by decide) ?_
  refine J_iadd dL_law_1071 ?_
  refine J_scr (q := i + 1) dL_law_1072 (nI_add i 1) (by omega) (by omega) ?_
  refine J_callVw (As := [_]) dL_law_1073 ml_L_192 cal_X9_isIn_ im_X9_isIn_ se_X9_isIn_ (hM1.at 0 rfl) rfl rfl rfl (Nat.le_of_ble_eq_true rfl) ⟨by decide, by decide⟩ ⟨by omega, by omega⟩ (c_X9_isIn_ hst hM1 hN1 hS1 hap hok (xx_scr G (i + 1))) (fun A2 hQ2 => ?_)
  obtain ⟨M2, ms2, h02, hM2, hs2⟩ := hQ2
  have hX2 := hX1.f9 (m := 1) (fun z a c => hs2 z (by unfold isM; omega)) rfl
  have hW2 := rdW.fr hW1 (fun z a c => hs2 z (by unfold isM; omega))
  have hG2 := hG1.fr (fun z a c => hs2 z (by unfold isM; omega))
  have hO2 := hO1.f9 (m := 1) (fun z a c => hs2 z (by unfold isM; omega)) rfl
  have hN2 := hN1.mf hs2 (m := 9) rfl hap.p
  have hS2 := hS1.mf hs2 (m := 14) rfl hap.s
  have hSb2 := hSb1.mf hs2 (m := 14) rfl hap2.s
  refine J_istore (L' := [(6, _), (5, _), (4, _), (3, _), (2, _), (1, _), (0, _)]) dL_law_1076 (by decide) rfl ?_
  refine J_aload_n dL_law_1078 rfl rfl ?_
  refine J_callVr (As := []) dL_law_1079 ml_L_117 cal_X9_thrown im_X9_thrown se_X9_thrown (hM2.at 0 rfl) rfl rfl rfl (Nat.le_of_ble_eq_true rfl) ⟨by decide, by decide⟩ ⟨by omega, by omega⟩ (c_X9_thrown hst hM2) ?_
  refine J_iload dL_law_1082 rfl ?_
  refine J_icmp_eq (tgt := 1089) dL_law_1084 rfl (fun h1084 => ?_) (fun h1084 => ?_)
  · refine J_iload dL_law_1089 rfl ?_
    refine J_if_ne (tgt := 1113) dL_law_1091 rfl (fun h1091 => ?_) (fun h1091 => ?_)
    · refine J_goto (tgt := 2062) dL_law_1113 rfl ?_
      refine xx_J.pick [2, 3, 4, 5, 6] rfl ?_
      exact cont _ _ _ _ ⟨T, len, eA, ru, cr, nw, _, r, S, P, bp, bn, _, ⟨D, R0, sg, hX2, hW2, hD8, hG2⟩, ⟨_, vL, nl, _, hM2, hN2, hS2, hSb2, (htp.of (ms2.1 2 (by decide)) (ms2.2 1 (by decide))), hT1, ((ms2.1 3 (by decide)).trans hM3)⟩, hO2, ⟨hok, hpl, hru, hrv, hrc, hz⟩, (hplc.up en1)⟩ (by omega) (by omega)
    · refine J_aload_n dL_law_1094 rfl rfl ?_
      refine J_iconst (v := 0) dL_law_1095 (by decide) ?_
      refine J_laldN 0 dL_law_1096 (hO2.at 0 rfl) rfl (by omega) (by decide) ?_
      refine J_iload dL_law_1097 rfl ?_
      refine J_if_eq (tgt := 1106) dL_law_1099 rfl (fun h1099 => ?_) (fun h1099 => ?_)
      · have hb0 : (aIn (fS S P) (xx_scr G (i + 1))).2 = 0 := h1099
        have hv9 := hf1 h1091
        rw [hb0] at hv9
        refine J_lconst (v := 0) dL_law_1106 (by decide) ?_
        refine J_lcmp dL_law_1107 ?_
        refine J_if_eq (tgt := 1113) dL_law_1108 rfl (fun h1108 => ?_) (fun h1108 => ?_)
        · refine J_goto (tgt := 2062) dL_law_1113 rfl ?_
          refine xx_J.pick [2, 3, 4, 5, 6] rfl ?_
          exact cont _ _ _ _ ⟨T, len, eA, ru, cr, nw, _, r, S, P, bp, bn, _, ⟨D, R0, sg, hX2, hW2, hD8, hG2⟩, ⟨_, vL, nl, _, hM2, hN2, hS2, hSb2, (htp.of (ms2.1 2 (by decide)) (ms2.2 1 (by decide))), hT1, ((ms2.1 3 (by decide)).trans hM3)⟩, hO2, ⟨hok, hpl, hru, hrv, hrc, hz⟩, (hplc.up en1)⟩ (by omega) (by omega)
        · exact absurd (lg_eq.mpr hv9) h1108
      · have hb0 : (aIn (fS S P) (xx_scr G (i + 1))).2 = 1 := (z_In h1091).resolve_left h1099
        have hv9 := hf1 h1091
        rw [hb0] at hv9
        refine J_lconst (v := 1) dL_law_1102 (by decide) ?_
        refine J_goto (tgt := 1107) dL_law_1103 rfl ?_
        refine J_lcmp dL_law_1107 ?_
        refine J_if_eq (tgt := 1113) dL_law_1108 rfl (fun h1108 => ?_) (fun h1108 => ?_)
        · refine J_goto (tgt := 2062) dL_law_1113 rfl ?_
          refine xx_J.pick [2, 3, 4, 5, 6] rfl ?_
          exact cont _ _ _ _ ⟨T, len, eA, ru, cr, nw, _, r, S, P, bp, bn, _, ⟨D, R0, sg, hX2, hW2, hD8, hG2⟩, ⟨_, vL, nl, _, hM2, hN2, hS2, hSb2, (htp.of (ms2.1 2 (by decide)) (ms2.2 1 (by decide))), hT1, ((ms2.1 3 (by decide)).trans hM3)⟩, hO2, ⟨hok, hpl, hru, hrv, hrc, hz⟩, (hplc.up en1)⟩ (by omega) (by omega)
        · exact absurd (lg_eq.mpr hv9) h1108
  · exact absurd h02 h1084
set_option maxHeartbeats 2000000 in
theorem lc_34 (hst : l.stackTraces = false) (hbm : b + 46 ≤ bm) (hho : ho = bm + 48) (hi : i + 6 ≤ G.2.2.2 200) (hL : G.2.2.2 200 < 2147483648) (hI : lwI b bm ho n A) (hkj : k ≤ 600900 ∧ j ≤ 7290000) (cont : ∀ A' n' k' j', lwI b bm ho n' A' → k' ≤ k + 40 → j' ≤ j + 2300 → xx_J G l mL_law 2048 84000 601024 7293034 Post 2062 [(4, .int (nI i)), (3, .ref ho), (2, .ref bm), (1, .ref b), (0, .ref 160)] [] A' n' k' j') : xx_J G l mL_law 2048 84000 601024 7293034 Post 1783 [(4, .int (nI i)), (3, .ref ho), (2, .ref bm), (1, .ref b), (0, .ref 160)] [] A n k j := by
  obtain ⟨T, len, eA, ru, cr, nw, nb, r, S, P, bp, bn, f, ⟨D, R0, sg, hX, hW, hD8, hG⟩, ⟨M, vL, nl, S1, hM, hN, hS, hS2, htp, hT1, hM3⟩, hO, ⟨hok, hpl, hru, hrv, hrc, hz⟩, hplc⟩ := hI
  obtain ⟨hap, hap2, hna, hbp, hbn, hn1, hn2, hn3⟩ := id hplc
  refine J_aload_n dL_law_1783 rfl rfl ?_
  refine J_aload_n dL_law_1784 rfl rfl ?_
  refine J_iload dL_law_1785 rfl ?_
  refine J_iconst (v := 1) dL_law_1787 (by decide) ?_
  refine J_iadd dL_law_1788 ?_
  refine J_scr (q := i + 1) dL_law_1789 (nI_add i 1) (by omega) (by omega) ?_
  refine J_aload_n dL_law_1790 rfl rfl ?_
  refine J_callSX (As := [_, _, _]) dL_law_1791 ml_L_231 cal_L_nextOpponentOf rfl sm_L_nextOpponentOf rfl (Nat.le_of_ble_eq_true rfl) ⟨by decide, by decide⟩ ⟨by omega, by omega⟩ (c_L_nextOpponentOf (a := (aNxt nw nb (fS S P) (xx_scr G (i + 1)))) hst (c_X6_nextOpponentOf hst hX hG (xx_scr G (i + 1))) hX hO (fun A1 h => hO.f9 (m := 1) (fun z a c => h.2 z (by omega)) rfl) k_Nxt) (fun v1 A1 n1 _ hQ1 => ?_) (fun E A n _ hQ => absurd hQ.1 (fun z => nomatch z))
  obtain ⟨er1, en1, em1, Ak1, f1, ⟨hGk1, hsk1⟩, ho1, hO1, hf1⟩ := hQ1
  cases er1
  have fr1 : ∀ z, ¬ z = ho → (z < b + 16 ∨ b + 46 ≤ z) → A1 z = A z := fun z h1 h2 => (ho1 z h1).trans (hsk1 z h2)
  have hX1 := hX.f9 (m := 1) (fun z a c => fr1 z (by omega) (by omega)) rfl
  have hW1 := hW.fr (fun z a c => fr1 z (by omega) (by omega))
  have hG1 := hGk1.fr (fun z a c => ho1 z (by omega))
  have hM1 := hM.f9 (m := 48) (fun z a c => fr1 z (by omega) (by omega)) rfl
  have hN1 := hN.f9 (m := 9) (fun z a c => fr1 z (by omega) (by omega)) rfl
  have hS1 := hS.f9 (m := 14) (fun z a c => fr1 z (by omega) (by omega)) rfl
  have hSb1 := hS2.f9 (m := 14) (fun z a c => fr1 z (by omega) (by omega)) rfl
  refine J_istore (L' := [(5, _), (4, _), (3, _), (2, _), (1, _), (0, _)]) dL_law_1794 (by decide) rfl ?_
  refine J_aload_n dL_law_1796 rfl rfl ?_
  refine J_aload_n dL_law_1797 rfl rfl ?_
  refine J_iload dL_law_1798 rfl ?_
  refine J_iconst (v := 1) dL_law_1800 (by decide) ?_
  refine J_iadd dL_law_1801 ?_
  refine J_scr (q := i + 1) dL_law_1802 (nI_add i 1) (by omega) (by omega) ?_
  refine J_callVw (As := [_]) dL_law_1803 ml_L_233 cal_X9_nextOpponentOf im_X9_nextOpponentOf se_X9_nextOpponentOf (hM1.at 0 rfl) rfl rfl rfl (Nat.le_of_ble_eq_true rfl) ⟨by decide, by decide⟩ ⟨by omega, by omega⟩ (c_X9_nextOpponentOf hst hM1 hN1 hS1 hap hok (xx_scr G (i + 1))) (fun A2 hQ2 => ?_)
  obtain ⟨M2, ms2, h02, hM2, hs2⟩ := hQ2
  have hX2 := hX1.f9 (m := 1) (fun z a c => hs2 z (by unfold isM; omega)) rfl
  have hW2 := rdW.fr hW1 (fun z a c => hs2 z (by unfold isM; omega))
  have hG2 := hG1.fr (fun z a c => hs2 z (by unfold isM; omega))
  have hO2 := hO1.f9 (m := 1) (fun z a c => hs2 z (by unfold isM; omega)) rfl
  have hN2 := hN1.mf hs2 (m := 9) rfl hap.p
  have hS2 := hS1.mf hs2 (m := 14) rfl hap.s
  have hSb2 := hSb1.mf hs2 (m := 14) rfl hap2.s
  refine J_istore (L' := [(6, _), (5, _), (4, _), (3, _), (2, _), (1, _), (0, _)]) dL_law_1806 (by decide) rfl ?_
  refine J_aload_n dL_law_1808 rfl rfl ?_
  refine J_callVr (As := []) dL_law_1809 ml_L_117 cal_X9_thrown im_X9_thrown se_X9_thrown (hM2.at 0 rfl) rfl rfl rfl (Nat.le_of_ble_eq_true rfl) ⟨by decide, by decide⟩ ⟨by omega, by omega⟩ (c_X9_thrown hst hM2) ?_
  refine J_iload dL_law_1812 rfl ?_
  refine J_icmp_eq (tgt := 1819) dL_law_1814 rfl (fun h1814 => ?_) (fun h1814 => ?_)
  · refine J_iload dL_law_1819 rfl ?_
    refine J_if_ne (tgt := 1836) dL_law_1821 rfl (fun h1821 => ?_) (fun h1821 => ?_)
    · refine J_goto (tgt := 2062) dL_law_1836 rfl ?_
      refine xx_J.pick [2, 3, 4, 5, 6] rfl ?_
      exact cont _ _ _ _ ⟨T, len, eA, ru, cr, nw, _, r, S, P, bp, bn, _, ⟨D, R0, sg, hX2, hW2, hD8, hG2⟩, ⟨_, vL, nl, _, hM2, hN2, hS2, hSb2, (htp.of (ms2.1 2 (by decide)) (ms2.2 1 (by decide))), hT1, ((ms2.1 3 (by decide)).trans hM3)⟩, hO2, ⟨hok, hpl, hru, hrv, hrc, hz⟩, (hplc.up en1)⟩ (by omega) (by omega)
    · refine J_aload_n dL_law_1824 rfl rfl ?_
      refine J_iconst (v := 0) dL_law_1825 (by decide) ?_
      refine J_laldN 0 dL_law_1826 (hO2.at 0 rfl) rfl (by omega) (by decide) ?_
      refine J_iload dL_law_1827 rfl ?_
      refine J_i2l dL_law_1829 rfl ?_
      refine J_lcmp dL_law_1830 ?_
      refine J_if_eq (tgt := 1836) dL_law_1831 rfl (fun h1831 => ?_) (fun h1831 => ?_)
      · refine J_goto (tgt := 2062) dL_law_1836 rfl ?_
        refine xx_J.pick [2, 3, 4, 5, 6] rfl ?_
        exact cont _ _ _ _ ⟨T, len, eA, ru, cr, nw, _, r, S, P, bp, bn, _, ⟨D, R0, sg, hX2, hW2, hD8, hG2⟩, ⟨_, vL, nl, _, hM2, hN2, hS2, hSb2, (htp.of (ms2.1 2 (by decide)) (ms2.2 1 (by decide))), hT1, ((ms2.1 3 (by decide)).trans hM3)⟩, hO2, ⟨hok, hpl, hru, hrv, hrc, hz⟩, (hplc.up en1)⟩ (by omega) (by omega)
      · exact absurd (lg_eq.mpr (hf1 h1821)) h1831
  · exact absurd h02 h1814
set_option maxHeartbeats 2000000 in
theorem lc_35 (hst : l.stackTraces = false) (hbm : b + 46 ≤ bm) (hho : ho = bm + 48) (hi : i + 6 ≤ G.2.2.2 200) (hL : G.2.2.2 200 < 2147483648) (hI : lwI b bm ho n A) (hkj : k ≤ 600900 ∧ j ≤ 7290000) (cont : ∀ A' n' k' j', lwI b bm ho n' A' → k' ≤ k + 40 → j' ≤ j + 2300 → xx_J G l mL_law 2048 84000 601024 7293034 Post 2062 [(4, .int (nI i)), (3, .ref ho), (2, .ref bm), (1, .ref b), (0, .ref 160)] [] A' n' k' j') : xx_J G l mL_law 2048 84000 601024 7293034 Post 1839 [(4, .int (nI i)), (3, .ref ho), (2, .ref bm), (1, .ref b), (0, .ref 160)] [] A n k j := by
  obtain ⟨T, len, eA, ru, cr, nw, nb, r, S, P, bp, bn, f, ⟨D, R0, sg, hX, hW, hD8, hG⟩, ⟨M, vL, nl, S1, hM, hN, hS, hS2, htp, hT1, hM3⟩, hO, ⟨hok, hpl, hru, hrv, hrc, hz⟩, hplc⟩ := hI
  obtain ⟨hap, hap2, hna, hbp, hbn, hn1, hn2, hn3⟩ := id hplc
  refine J_aload_n dL_law_1839 rfl rfl ?_
  refine J_aload_n dL_law_1840 rfl rfl ?_
  refine J_callSX (As := [_, _]) dL_law_1841 ml_L_234 cal_L_nextRematches rfl sm_L_nextRematches rfl (Nat.le_of_ble_eq_true rfl) ⟨by decide, by decide⟩ ⟨by omega, by omega⟩ (c_L_nextRematches (a := (aRem nw nb (fS S P))) hst (c_X6_nextRematches hst hX hG ) hX hO (fun A1 h => hO.f9 (m := 1) (fun z a c => h.2 z (by omega)) rfl) k_Rem) (fun v1 A1 n1 _ hQ1 => ?_) (fun E A n _ hQ => absurd hQ.1 (fun z => nomatch z))
  obtain ⟨er1, en1, em1, Ak1, f1, ⟨hGk1, hsk1⟩, ho1, hO1, hf1⟩ := hQ1
  cases er1
  have fr1 : ∀ z, ¬ z = ho → (z < b + 16 ∨ b + 46 ≤ z) → A1 z = A z := fun z h1 h2 => (ho1 z h1).trans (hsk1 z h2)
  have hX1 := hX.f9 (m := 1) (fun z a c => fr1 z (by omega) (by omega)) rfl
  have hW1 := hW.fr (fun z a c => fr1 z (by omega) (by omega))
  have hG1 := hGk1.fr (fun z a c => ho1 z (by omega))
  have hM1 := hM.f9 (m := 48) (fun z a c => fr1 z (by omega) (by omega)) rfl
  have hN1 := hN.f9 (m := 9) (fun z a c => fr1 z (by omega) (by omega)) rfl
  have hS1 := hS.f9 (m := 14) (fun z a c => fr1 z (by omega) (by omega)) rfl
  have hSb1 := hS2.f9 (m := 14) (fun z a c => fr1 z (by omega) (by omega)) rfl
  refine J_istore (L' := [(5, _), (4, _), (3, _), (2, _), (1, _), (0, _)]) dL_law_1844 (by decide) rfl ?_
  refine J_aload_n dL_law_1846 rfl rfl ?_
  refine J_callVw (As := []) dL_law_1847 ml_L_236 cal_X9_nextRematches im_X9_nextRematches se_X9_nextRematches (hM1.at 0 rfl) rfl rfl rfl (Nat.le_of_ble_eq_true rfl) ⟨by decide, by decide⟩ ⟨by omega, by omega⟩ (c_X9_nextRematches hst hM1 hN1 hS1 hap hok ) (fun A2 hQ2 => ?_)
  obtain ⟨M2, ms2, h02, hM2, hs2⟩ := hQ2
  have hX2 := hX1.f9 (m := 1) (fun z a c => hs2 z (by unfold isM; omega)) rfl
  have hW2 := rdW.fr hW1 (fun z a c => hs2 z (by unfold isM; omega))
  have hG2 := hG1.fr (fun z a c => hs2 z (by unfold isM; omega))
  have hO2 := hO1.f9 (m := 1) (fun z a c => hs2 z (by unfold isM; omega)) rfl
  have hN2 := hN1.mf hs2 (m := 9) rfl hap.p
  have hS2 := hS1.mf hs2 (m := 14) rfl hap.s
  have hSb2 := hSb1.mf hs2 (m := 14) rfl hap2.s
  refine J_istore (L' := [(6, _), (5, _), (4, _), (3, _), (2, _), (1, _), (0, _)]) dL_law_1850 (by decide) rfl ?_
  refine J_aload_n dL_law_1852 rfl rfl ?_
  refine J_callVr (As := []) dL_law_1853 ml_L_117 cal_X9_thrown im_X9_thrown se_X9_thrown (hM2.at 0 rfl) rfl rfl rfl (Nat.le_of_ble_eq_true rfl) ⟨by decide, by decide⟩ ⟨by omega, by omega⟩ (c_X9_thrown hst hM2) ?_
  refine J_iload dL_law_1856 rfl ?_
  refine J_icmp_eq (tgt := 1863) dL_law_1858 rfl (fun h1858 => ?_) (fun h1858 => ?_)
  · refine J_iload dL_law_1863 rfl ?_
    refine J_if_ne (tgt := 1880) dL_law_1865 rfl (fun h1865 => ?_) (fun h1865 => ?_)
    · refine J_goto (tgt := 2062) dL_law_1880 rfl ?_
      refine xx_J.pick [2, 3, 4, 5, 6] rfl ?_
      exact cont _ _ _ _ ⟨T, len, eA, ru, cr, nw, _, r, S, P, bp, bn, _, ⟨D, R0, sg, hX2, hW2, hD8, hG2⟩, ⟨_, vL, nl, _, hM2, hN2, hS2, hSb2, (htp.of (ms2.1 2 (by decide)) (ms2.2 1 (by decide))), hT1, ((ms2.1 3 (by decide)).trans hM3)⟩, hO2, ⟨hok, hpl, hru, hrv, hrc, hz⟩, (hplc.up en1)⟩ (by omega) (by omega)
    · refine J_aload_n dL_law_1868 rfl rfl ?_
      refine J_iconst (v := 0) dL_law_1869 (by decide) ?_
      refine J_laldN 0 dL_law_1870 (hO2.at 0 rfl) rfl (by omega) (by decide) ?_
      refine J_iload dL_law_1871 rfl ?_
      refine J_i2l dL_law_1873 rfl ?_
      refine J_lcmp dL_law_1874 ?_
      refine J_if_eq (tgt := 1880) dL_law_1875 rfl (fun h1875 => ?_) (fun h1875 => ?_)
      · refine J_goto (tgt := 2062) dL_law_1880 rfl ?_
        refine xx_J.pick [2, 3, 4, 5, 6] rfl ?_
        exact cont _ _ _ _ ⟨T, len, eA, ru, cr, nw, _, r, S, P, bp, bn, _, ⟨D, R0, sg, hX2, hW2, hD8, hG2⟩, ⟨_, vL, nl, _, hM2, hN2, hS2, hSb2, (htp.of (ms2.1 2 (by decide)) (ms2.2 1 (by decide))), hT1, ((ms2.1 3 (by decide)).trans hM3)⟩, hO2, ⟨hok, hpl, hru, hrv, hrc, hz⟩, (hplc.up en1)⟩ (by omega) (by omega)
      · exact absurd (lg_eq.mpr (hf1 h1865)) h1875
  · exact absurd h02 h1858
set_option maxHeartbeats 2000000 in
theorem lc_36 (hst : l.stackTraces = false) (hbm : b + 46 ≤ bm) (hho : ho = bm + 48) (hi : i + 6 ≤ G.2.2.2 200) (hL : G.2.2.2 200 < 2147483648) (hI : lwI b bm ho n A) (hkj : k ≤ 600900 ∧ j ≤ 7290000) (cont : ∀ A' n' k' j', lwI b bm ho n' A' → k' ≤ k + 40 → j' ≤ j + 2300 → xx_J G l mL_law 2048 84000 601024 7293034 Post 2062 [(4, .int (nI i)), (3, .ref ho), (2, .ref bm), (1, .ref b), (0, .ref 160)] [] A' n' k' j') : xx_J G l mL_law 2048 84000 601024 7293034 Post 1883 [(4, .int (nI i)), (3, .ref ho), (2, .ref bm), (1, .ref b), (0, .ref 160)] [] A n k j := by
  obtain ⟨T, len, eA, ru, cr, nw, nb, r, S, P, bp, bn, f, ⟨D, R0, sg, hX, hW, hD8, hG⟩, ⟨M, vL, nl, S1, hM, hN, hS, hS2, htp, hT1, hM3⟩, hO, ⟨hok, hpl, hru, hrv, hrc, hz⟩, hplc⟩ := hI
  obtain ⟨hap, hap2, hna, hbp, hbn, hn1, hn2, hn3⟩ := id hplc
  refine J_aload_n dL_law_1883 rfl rfl ?_
  refine J_aload_n dL_law_1884 rfl rfl ?_
  refine J_iload dL_law_1885 rfl ?_
  refine J_iconst (v := 1) dL_law_1887 (by decide) ?_
  refine J_iadd dL_law_1888 ?_
  refine J_scr (q := i + 1) dL_law_1889 (nI_add i 1) (by omega) (by omega) ?_
  refine J_aload_n dL_law_1890 rfl rfl ?_
  refine J_callSX (As := [_, _, _]) dL_law_1891 ml_L_237 cal_L_leaderAfter rfl sm_L_leaderAfter rfl (Nat.le_of_ble_eq_true rfl) ⟨by decide, by decide⟩ ⟨by omega, by omega⟩ (c_L_leaderAfter (a := (aLead ru nw nb (fS S P) (xx_scr G (i + 1)))) hst (c_X6_leaderAfter hst hX hG (xx_scr G (i + 1)) hrv hrc) hX hO (fun A1 h => hO.f9 (m := 1) (fun z a c => h.2 z (by omega)) rfl) k_Lead) (fun v1 A1 n1 _ hQ1 => ?_) (fun E A n _ hQ => absurd hQ.1 (fun z => nomatch z))
  obtain ⟨er1, en1, em1, Ak1, f1, ⟨hGk1, hsk1⟩, ho1, hO1, hf1⟩ := hQ1
  cases er1
  have fr1 : ∀ z, ¬ z = ho → (z < b + 16 ∨ b + 46 ≤ z) → A1 z = A z := fun z h1 h2 => (ho1 z h1).trans (hsk1 z h2)
  have hX1 := hX.f9 (m := 1) (fun z a c => fr1 z (by omega) (by omega)) rfl
  have hW1 := hW.fr (fun z a c => fr1 z (by omega) (by omega))
  have hG1 := hGk1.fr (fun z a c => ho1 z (by omega))
  have hM1 := hM.f9 (m := 48) (fun z a c => fr1 z (by omega) (by omega)) rfl
  have hN1 := hN.f9 (m := 9) (fun z a c => fr1 z (by omega) (by omega)) rfl
  have hS1 := hS.f9 (m := 14) (fun z a c => fr1 z (by omega) (by omega)) rfl
  have hSb1 := hS2.f9 (m := 14) (fun z a c => fr1 z (by omega) (by omega)) rfl
  refine J_istore (L' := [(5, _), (4, _), (3, _), (2, _), (1, _), (0, _)]) dL_law_1894 (by decide) rfl ?_
  refine J_aload_n dL_law_1896 rfl rfl ?_
  refine J_aload_n dL_law_1897 rfl rfl ?_
  refine J_iload dL_law_1898 rfl ?_
  refine J_iconst (v := 1) dL_law_1900 (by decide) ?_
  refine J_iadd dL_law_1901 ?_
  refine J_scr (q := i + 1) dL_law_1902 (nI_add i 1) (by omega) (by omega) ?_
  refine J_callVw (As := [_]) dL_law_1903 ml_L_239 cal_X9_leaderAfter im_X9_leaderAfter se_X9_leaderAfter (hM1.at 0 rfl) rfl rfl rfl (Nat.le_of_ble_eq_true rfl) ⟨by decide, by decide⟩ ⟨by omega, by omega⟩ (c_X9_leaderAfter hst hM1 hN1 hS1 hap hok hSb1 hap2 hna hz hpl hru hrv hrc (xx_scr G (i + 1))) (fun A2 hQ2 => ?_)
  obtain ⟨M2, S2, ms2, h02, hM2, hN2, hS2, hSb2, hs2⟩ := hQ2
  have hX2 := hX1.f9 (m := 1) (fun z a c => hs2 z (by unfold isM; omega) (by omega)) rfl
  have hW2 := rdW.fr hW1 (fun z a c => hs2 z (by unfold isM; omega) (by omega))
  have hG2 := hG1.fr (fun z a c => hs2 z (by unfold isM; omega) (by omega))
  have hO2 := hO1.f9 (m := 1) (fun z a c => hs2 z (by unfold isM; omega) (by omega)) rfl
  refine J_istore (L' := [(6, _), (5, _), (4, _), (3, _), (2, _), (1, _), (0, _)]) dL_law_1906 (by decide) rfl ?_
  refine J_aload_n dL_law_1908 rfl rfl ?_
  refine J_callVr (As := []) dL_law_1909 ml_L_117 cal_X9_thrown im_X9_thrown se_X9_thrown (hM2.at 0 rfl) rfl rfl rfl (Nat.le_of_ble_eq_true rfl) ⟨by decide, by decide⟩ ⟨by omega, by omega⟩ (c_X9_thrown hst hM2) ?_
  refine J_iload dL_law_1912 rfl ?_
  refine J_icmp_eq (tgt := 1919) dL_law_1914 rfl (fun h1914 => ?_) (fun h1914 => ?_)
  · refine J_iload dL_law_1919 rfl ?_
    refine J_if_ne (tgt := 1936) dL_law_1921 rfl (fun h1921 => ?_) (fun h1921 => ?_)
    · refine J_goto (tgt := 2062) dL_law_1936 rfl ?_
      refine xx_J.pick [2, 3, 4, 5, 6] rfl ?_
      exact cont _ _ _ _ ⟨T, len, eA, ru, cr, nw, _, r, S, P, bp, bn, _, ⟨D, R0, sg, hX2, hW2, hD8, hG2⟩, ⟨_, vL, nl, _, hM2, hN2, hS2, hSb2, (htp.of (ms2.1 2 (by decide)) (ms2.2 1 (by decide))), hT1, ((ms2.1 3 (by decide)).trans hM3)⟩, hO2, ⟨hok, hpl, hru, hrv, hrc, hz⟩, (hplc.up en1)⟩ (by omega) (by omega)
    · refine J_aload_n dL_law_1924 rfl rfl ?_
      refine J_iconst (v := 0) dL_law_1925 (by decide) ?_
      refine J_laldN 0 dL_law_1926 (hO2.at 0 rfl) rfl (by omega) (by decide) ?_
      refine J_iload dL_law_1927 rfl ?_
      refine J_i2l dL_law_1929 rfl ?_
      refine J_lcmp dL_law_1930 ?_
      refine J_if_eq (tgt := 1936) dL_law_1931 rfl (fun h1931 => ?_) (fun h1931 => ?_)
      · refine J_goto (tgt := 2062) dL_law_1936 rfl ?_
        refine xx_J.pick [2, 3, 4, 5, 6] rfl ?_
        exact cont _ _ _ _ ⟨T, len, eA, ru, cr, nw, _, r, S, P, bp, bn, _, ⟨D, R0, sg, hX2, hW2, hD8, hG2⟩, ⟨_, vL, nl, _, hM2, hN2, hS2, hSb2, (htp.of (ms2.1 2 (by decide)) (ms2.2 1 (by decide))), hT1, ((ms2.1 3 (by decide)).trans hM3)⟩, hO2, ⟨hok, hpl, hru, hrv, hrc, hz⟩, (hplc.up en1)⟩ (by omega) (by omega)
      · exact absurd (lg_eq.mpr (hf1 h1921)) h1931
  · exact absurd h02 h1914
set_option maxHeartbeats 2000000 in
theorem lc_37 (hst : l.stackTraces = false) (hbm : b + 46 ≤ bm) (hho : ho = bm + 48) (hi : i + 6 ≤ G.2.2.2 200) (hL : G.2.2.2 200 < 2147483648) (hI : lwI b bm ho n A) (hkj : k ≤ 600900 ∧ j ≤ 7290000) (cont : ∀ A' n' k' j', lwI b bm ho n' A' → k' ≤ k + 40 → j' ≤ j + 2300 → xx_J G l mL_law 2048 84000 601024 7293034 Post 2062 [(4, .int (nI i)), (3, .ref ho), (2, .ref bm), (1, .ref b), (0, .ref 160)] [] A' n' k' j') : xx_J G l mL_law 2048 84000 601024 7293034 Post 1939 [(4, .int (nI i)), (3, .ref ho), (2, .ref bm), (1, .ref b), (0, .ref 160)] [] A n k j := by
  obtain ⟨T, len, eA, ru, cr, nw, nb, r, S, P, bp, bn, f, ⟨D, R0, sg, hX, hW, hD8, hG⟩, ⟨M, vL, nl, S1, hM, hN, hS, hS2, htp, hT1, hM3⟩, hO, ⟨hok, hpl, hru, hrv, hrc, hz⟩, hplc⟩ := hI
  obtain ⟨hap, hap2, hna, hbp, hbn, hn1, hn2, hn3⟩ := id hplc
  refine J_aload_n dL_law_1939 rfl rfl ?_
  refine J_aload_n dL_law_1940 rfl rfl ?_
  refine J_iload dL_law_1941 rfl ?_
  refine J_iconst (v := 1) dL_law_1943 (by decide) ?_
  refine J_iadd dL_law_1944 ?_
  refine J_scr (q := i + 1) dL_law_1945 (nI_add i 1) (by omega) (by omega) ?_
  refine J_aload_n dL_law_1946 rfl rfl ?_
  refine J_iload dL_law_1947 rfl ?_
  refine J_iconst (v := 2) dL_law_1949 (by decide) ?_
  refine J_iadd dL_law_1950 ?_
  refine J_scr (q := i + 2) dL_law_1951 (nI_add i 2) (by omega) (by omega) ?_
  refine J_aload_n dL_law_1952 rfl rfl ?_
  refine J_callSX (As := [_, _, _, _]) dL_law_1953 ml_L_240 cal_L_pointsAfter rfl sm_L_pointsAfter rfl (Nat.le_of_ble_eq_true rfl) ⟨by decide, by decide⟩ ⟨by omega, by omega⟩ (c_L_pointsAfter (a := (aPtA ru nw nb (fS S P) (xx_scr G (i + 1)) (xx_scr G (i + 2)))) hst (c_X6_pointsAfter hst hX hG (xx_scr G (i + 1)) (xx_scr G (i + 2)) hrv hrc) hX hO (fun A1 h => hO.f9 (m := 1) (fun z a c => h.2 z (by omega)) rfl) k_PtA) (fun v1 A1 n1 _ hQ1 => ?_) (fun E A n _ hQ => absurd hQ.1 (fun z => nomatch z))
  obtain ⟨er1, en1, em1, Ak1, f1, ⟨hGk1, hsk1⟩, ho1, hO1, hf1⟩ := hQ1
  cases er1
  have fr1 : ∀ z, ¬ z = ho → (z < b + 16 ∨ b + 46 ≤ z) → A1 z = A z := fun z h1 h2 => (ho1 z h1).trans (hsk1 z h2)
  have hX1 := hX.f9 (m := 1) (fun z a c => fr1 z (by omega) (by omega)) rfl
  have hW1 := hW.fr (fun z a c => fr1 z (by omega) (by omega))
  have hG1 := hGk1.fr (fun z a c => ho1 z (by omega))
  have hM1 := hM.f9 (m := 48) (fun z a c => fr1 z (by omega) (by omega)) rfl
  have hN1 := hN.f9 (m := 9) (fun z a c => fr1 z (by omega) (by omega)) rfl
  have hS1 := hS.f9 (m := 14) (fun z a c => fr1 z (by omega) (by omega)) rfl
  have hSb1 := hS2.f9 (m := 14) (fun z a c => fr1 z (by omega) (by omega)) rfl
  refine J_istore (L' := [(5, _), (4, _), (3, _), (2, _), (1, _), (0, _)]) dL_law_1956 (by decide) rfl ?_
  refine J_aload_n dL_law_1958 rfl rfl ?_
  refine J_aload_n dL_law_1959 rfl rfl ?_
  refine J_iload dL_law_1960 rfl ?_
  refine J_iconst (v := 1) dL_law_1962 (by decide) ?_
  refine J_iadd dL_law_1963 ?_
  refine J_scr (q := i + 1) dL_law_1964 (nI_add i 1) (by omega) (by omega) ?_
  refine J_aload_n dL_law_1965 rfl rfl ?_
  refine J_iload dL_law_1966 rfl ?_
  refine J_iconst (v := 2) dL_law_1968 (by decide) ?_
  refine J_iadd dL_law_1969 ?_
  refine J_scr (q := i + 2) dL_law_1970 (nI_add i 2) (by omega) (by omega) ?_
  refine J_callVw (As := [_, _]) dL_law_1971 ml_L_242 cal_X9_pointsAfter im_X9_pointsAfter se_X9_pointsAfter (hM1.at 0 rfl) rfl rfl rfl (Nat.le_of_ble_eq_true rfl) ⟨by decide, by decide⟩ ⟨by omega, by omega⟩ (c_X9_pointsAfter hst hM1 hN1 hS1 hap hok hSb1 hap2 hna hz hpl hru hrv hrc (xx_scr G (i + 1)) (xx_scr G (i + 2))) (fun A2 hQ2 => ?_)
  obtain ⟨M2, S2, ms2, h02, hM2, hN2, hS2, hSb2, hs2⟩ := hQ2
  have hX2 := hX1.f9 (m := 1) (fun z a c => hs2 z (by unfold isM; omega) (by omega)) rfl
  have hW2 := rdW.fr hW1 (fun z a c => hs2 z (by unfold isM; omega) (by omega))
  have hG2 := hG1.fr (fun z a c => hs2 z (by unfold isM; omega) (by omega))
  have hO2 := hO1.f9 (m := 1) (fun z a c => hs2 z (by unfold isM; omega) (by omega)) rfl
  refine J_istore (L' := [(6, _), (5, _), (4, _), (3, _), (2, _), (1, _), (0, _)]) dL_law_1974 (by decide) rfl ?_
  refine J_aload_n dL_law_1976 rfl rfl ?_
  refine J_callVr (As := []) dL_law_1977 ml_L_117 cal_X9_thrown im_X9_thrown se_X9_thrown (hM2.at 0 rfl) rfl rfl rfl (Nat.le_of_ble_eq_true rfl) ⟨by decide, by decide⟩ ⟨by omega, by omega⟩ (c_X9_thrown hst hM2) ?_
  refine J_iload dL_law_1980 rfl ?_
  refine J_icmp_eq (tgt := 1987) dL_law_1982 rfl (fun h1982 => ?_) (fun h1982 => ?_)
  · refine J_iload dL_law_1987 rfl ?_
    refine J_if_ne (tgt := 2004) dL_law_1989 rfl (fun h1989 => ?_) (fun h1989 => ?_)
    · refine J_goto (tgt := 2062) dL_law_2004 rfl ?_
      refine xx_J.pick [2, 3, 4, 5, 6] rfl ?_
      exact cont _ _ _ _ ⟨T, len, eA, ru, cr, nw, _, r, S, P, bp, bn, _, ⟨D, R0, sg, hX2, hW2, hD8, hG2⟩, ⟨_, vL, nl, _, hM2, hN2, hS2, hSb2, (htp.of (ms2.1 2 (by decide)) (ms2.2 1 (by decide))), hT1, ((ms2.1 3 (by decide)).trans hM3)⟩, hO2, ⟨hok, hpl, hru, hrv, hrc, hz⟩, (hplc.up en1)⟩ (by omega) (by omega)
    · refine J_aload_n dL_law_1992 rfl rfl ?_
      refine J_iconst (v := 0) dL_law_1993 (by decide) ?_
      refine J_laldN 0 dL_law_1994 (hO2.at 0 rfl) rfl (by omega) (by decide) ?_
      refine J_iload dL_law_1995 rfl ?_
      refine J_i2l dL_law_1997 rfl ?_
      refine J_lcmp dL_law_1998 ?_
      refine J_if_eq (tgt := 2004) dL_law_1999 rfl (fun h1999 => ?_) (fun h1999 => ?_)
      · refine J_goto (tgt := 2062) dL_law_2004 rfl ?_
        refine xx_J.pick [2, 3, 4, 5, 6] rfl ?_
        exact cont _ _ _ _ ⟨T, len, eA, ru, cr, nw, _, r, S, P, bp, bn, _, ⟨D, R0, sg, hX2, hW2, hD8, hG2⟩, ⟨_, vL, nl, _, hM2, hN2, hS2, hSb2, (htp.of (ms2.1 2 (by decide)) (ms2.2 1 (by decide))), hT1, ((ms2.1 3 (by decide)).trans hM3)⟩, hO2, ⟨hok, hpl, hru, hrv, hrc, hz⟩, (hplc.up en1)⟩ (by omega) (by omega)
      · exact absurd (lg_eq.mpr (hf1 h1989)) h1999
  · exact absurd h02 h1982
set_option maxHeartbeats 2000000 in
theorem lc_30 (hst : l.stackTraces = false) (hbm : b + 46 ≤ bm) (hho : ho = bm + 48) (hi : i + 6 ≤ G.2.2.2 200) (hL : G.2.2.2 200 < 2147483648) (hI : lwI b bm ho n A) (hkj : k ≤ 600900 ∧ j ≤ 7290000) (cont : ∀ A' n' k' j', lwI b bm ho n' A' → k' ≤ k + 40 → j' ≤ j + 2300 → xx_J G l mL_law 2048 84000 601024 7293034 Post 2062 [(4, .int (nI i)), (3, .ref ho), (2, .ref bm), (1, .ref b), (0, .ref 160)] [] A' n' k' j') : xx_J G l mL_law 2048 84000 601024 7293034 Post 1564 [(4, .int (nI i)), (3, .ref ho), (2, .ref bm), (1, .ref b), (0, .ref 160)] [] A n k j := by
  obtain ⟨T, len, eA, ru, cr, nw, nb, r, S, P, bp, bn, f, ⟨D, R0, sg, hX, hW, hD8, hG⟩, ⟨M, vL, nl, S1, hM, hN, hS, hS2, htp, hT1, hM3⟩, hO, ⟨hok, hpl, hru, hrv, hrc, hz⟩, hplc⟩ := hI
  obtain ⟨hap, hap2, hna, hbp, hbn, hn1, hn2, hn3⟩ := id hplc
  refine J_aload_n dL_law_1564 rfl rfl ?_
  refine J_aload_n dL_law_1565 rfl rfl ?_
  refine J_callSX (As := [_, _]) dL_law_1566 ml_L_219 cal_L_pairRound rfl sm_L_pairRound rfl (Nat.le_of_ble_eq_true rfl) ⟨by decide, by decide⟩ ⟨by omega, by omega⟩ (c_L_pairRound (a := (aPair nw nb (fS S P))) hst (c_X6_pairRound hst hX hG ) hX hO (fun A1 h => hO.f9 (m := 1) (fun z a c => h.2 z (by omega)) rfl) k_Pair) (fun v1 A1 n1 _ hQ1 => ?_) (fun E A n _ hQ => absurd hQ.1 (fun z => nomatch z))
  obtain ⟨er1, en1, em1, Ak1, f1, ⟨⟨r1, hGk1⟩, hsk1⟩, ho1, hO1, hf1⟩ := hQ1
  cases er1
  have fr1 : ∀ z, ¬ z = ho → (z < b + 16 ∨ b + 46 ≤ z) → A1 z = A z := fun z h1 h2 => (ho1 z h1).trans (hsk1 z h2)
  have hX1 := hX.f9 (m := 1) (fun z a c => fr1 z (by omega) (by omega)) rfl
  have hW1 := hW.fr (fun z a c => fr1 z (by omega) (by omega))
  have hG1 := hGk1.fr (fun z a c => ho1 z (by omega))
  have hM1 := hM.f9 (m := 48) (fun z a c => fr1 z (by omega) (by omega)) rfl
  have hN1 := hN.f9 (m := 9) (fun z a c => fr1 z (by omega) (by omega)) rfl
  have hS1 := hS.f9 (m := 14) (fun z a c => fr1 z (by omega) (by omega)) rfl
  have hSb1 := hS2.f9 (m := 14) (fun z a c => fr1 z (by omega) (by omega)) rfl
  refine J_istore (L' := [(5, _), (4, _), (3, _), (2, _), (1, _), (0, _)]) dL_law_1569 (by decide) rfl ?_
  refine J_aload_n dL_law_1571 rfl rfl ?_
  refine J_callVw (As := []) dL_law_1572 ml_L_221 cal_X9_pairRound im_X9_pairRound se_X9_pairRound (hM1.at 0 rfl) rfl rfl rfl (Nat.le_of_ble_eq_true rfl) ⟨by decide, by decide⟩ ⟨by omega, by omega⟩ (c_X9_pairRound hst hM1 hN1 hS1 hap hok hz) (fun A2 hQ2 => ?_)
  obtain ⟨M2, S2, ms2, h02, hM2, hN2, hS2, hs2, hF2, hz2⟩ := hQ2
  have hX2 := hX1.f9 (m := 1) (fun z a c => hs2 z (by unfold isM; omega) (by omega)) rfl
  have hW2 := rdW.fr hW1 (fun z a c => hs2 z (by unfold isM; omega) (by omega))
  have hG2 := hG1.fr (fun z a c => hs2 z (by unfold isM; omega) (by omega))
  have hO2 := hO1.f9 (m := 1) (fun z a c => hs2 z (by unfold isM; omega) (by omega)) rfl
  have hSb2 := hSb1.rs hs2 (m := 14) rfl (by omega) hap2.s
  rw [← hF2] at hG2
  have hok2 := hG2.ok
  refine J_istore (L' := [(6, _), (5, _), (4, _), (3, _), (2, _), (1, _), (0, _)]) dL_law_1575 (by decide) rfl ?_
  refine J_aload_n dL_law_1577 rfl rfl ?_
  refine J_callVr (As := []) dL_law_1578 ml_L_117 cal_X9_thrown im_X9_thrown se_X9_thrown (hM2.at 0 rfl) rfl rfl rfl (Nat.le_of_ble_eq_true rfl) ⟨by decide, by decide⟩ ⟨by omega, by omega⟩ (c_X9_thrown hst hM2) ?_
  refine J_iload dL_law_1581 rfl ?_
  refine J_icmp_eq (tgt := 1588) dL_law_1583 rfl (fun h1583 => ?_) (fun h1583 => ?_)
  · refine J_iload dL_law_1588 rfl ?_
    refine J_if_ne (tgt := 1605) dL_law_1590 rfl (fun h1590 => ?_) (fun h1590 => ?_)
    · refine J_goto (tgt := 2062) dL_law_1605 rfl ?_
      refine xx_J.pick [2, 3, 4, 5, 6] rfl ?_
      exact cont _ _ _ _ ⟨T, len, eA, ru, cr, nw, _, r1, S2, P, bp, bn, _, ⟨D, R0, sg, hX2, hW2, hD8, hG2⟩, ⟨_, vL, nl, _, hM2, hN2, hS2, hSb2, (htp.of (ms2.1 2 (by decide)) (ms2.2 1 (by decide))), hT1, ((ms2.1 3 (by decide)).trans hM3)⟩, hO2, ⟨hok2, hpl, hru, hrv, hrc, hz2⟩, (hplc.up en1)⟩ (by omega) (by omega)
    · refine J_aload_n dL_law_1593 rfl rfl ?_
      refine J_iconst (v := 0) dL_law_1594 (by decide) ?_
      refine J_laldN 0 dL_law_1595 (hO2.at 0 rfl) rfl (by omega) (by decide) ?_
      refine J_iload dL_law_1596 rfl ?_
      refine J_i2l dL_law_1598 rfl ?_
      refine J_lcmp dL_law_1599 ?_
      refine J_if_eq (tgt := 1605) dL_law_1600 rfl (fun h1600 => ?_) (fun h1600 => ?_)
      · refine J_goto (tgt := 2062) dL_law_1605 rfl ?_
        refine xx_J.pick [2, 3, 4, 5, 6] rfl ?_
        exact cont _ _ _ _ ⟨T, len, eA, ru, cr, nw, _, r1, S2, P, bp, bn, _, ⟨D, R0, sg, hX2, hW2, hD8, hG2⟩, ⟨_, vL, nl, _, hM2, hN2, hS2, hSb2, (htp.of (ms2.1 2 (by decide)) (ms2.2 1 (by decide))), hT1, ((ms2.1 3 (by decide)).trans hM3)⟩, hO2, ⟨hok2, hpl, hru, hrv, hrc, hz2⟩, (hplc.up en1)⟩ (by omega) (by omega)
      · exact absurd (lg_eq.mpr (hf1 h1590)) h1600
  · exact absurd h02 h1583
set_option maxHeartbeats 2000000 in
theorem lc_31 (hst : l.stackTraces = false) (hbm : b + 46 ≤ bm) (hho : ho = bm + 48) (hi : i + 6 ≤ G.2.2.2 200) (hL : G.2.2.2 200 < 2147483648) (hI : lwI b bm ho n A) (hkj : k ≤ 600900 ∧ j ≤ 7290000) (cont : ∀ A' n' k' j', lwI b bm ho n' A' → k' ≤ k + 40 → j' ≤ j + 2300 → xx_J G l mL_law 2048 84000 601024 7293034 Post 2062 [(4, .int (nI i)), (3, .ref ho), (2, .ref bm), (1, .ref b), (0, .ref 160)] [] A' n' k' j') : xx_J G l mL_law 2048 84000 601024 7293034 Post 1608 [(4, .int (nI i)), (3, .ref ho), (2, .ref bm), (1, .ref b), (0, .ref 160)] [] A n k j := by
  obtain ⟨T, len, eA, ru, cr, nw, nb, r, S, P, bp, bn, f, ⟨D, R0, sg, hX, hW, hD8, hG⟩, ⟨M, vL, nl, S1, hM, hN, hS, hS2, htp, hT1, hM3⟩, hO, ⟨hok, hpl, hru, hrv, hrc, hz⟩, hplc⟩ := hI
  obtain ⟨hap, hap2, hna, hbp, hbn, hn1, hn2, hn3⟩ := id hplc
  refine J_aload_n dL_law_1608 rfl rfl ?_
  refine J_aload_n dL_law_1609 rfl rfl ?_
  refine J_iload dL_law_1610 rfl ?_
  refine J_iconst (v := 1) dL_law_1612 (by decide) ?_
  refine J_iadd dL_law_1613 ?_
  refine J_scr (q := i + 1) dL_law_1614 (nI_add i 1) (by omega) (by omega) ?_
  refine J_aload_n dL_law_1615 rfl rfl ?_
  refine J_iload dL_law_1616 rfl ?_
  refine J_iconst (v := 2) dL_law_1618 (by decide) ?_
  refine J_iadd dL_law_1619 ?_
  refine J_scr (q := i + 2) dL_law_1620 (nI_add i 2) (by omega) (by omega) ?_
  refine J_aload_n dL_law_1621 rfl rfl ?_
  refine J_callSX (As := [_, _, _, _]) dL_law_1622 ml_L_222 cal_L_tell rfl sm_L_tell rfl (Nat.le_of_ble_eq_true rfl) ⟨by decide, by decide⟩ ⟨by omega, by omega⟩ (c_L_tell (a := (aTell nb (fS S P) (xx_scr G (i + 1)) (xx_scr G (i + 2)))) hst (c_X6_tell hst hX hG (xx_scr G (i + 1)) (xx_scr G (i + 2))) hX hO (fun A1 h => hO.f9 (m := 1) (fun z a c => h.2 z (by omega)) rfl) k_Tell) (fun v1 A1 n1 _ hQ1 => ?_) (fun E A n _ hQ => absurd hQ.1 (fun z => nomatch z))
  obtain ⟨er1, en1, em1, Ak1, f1, ⟨hGk1, hsk1⟩, ho1, hO1, hf1⟩ := hQ1
  cases er1
  have fr1 : ∀ z, ¬ z = ho → (z < b + 16 ∨ b + 46 ≤ z) → A1 z = A z := fun z h1 h2 => (ho1 z h1).trans (hsk1 z h2)
  have hX1 := hX.f9 (m := 1) (fun z a c => fr1 z (by omega) (by omega)) rfl
  have hW1 := hW.fr (fun z a c => fr1 z (by omega) (by omega))
  have hG1 := hGk1.fr (fun z a c => ho1 z (by omega))
  have hM1 := hM.f9 (m := 48) (fun z a c => fr1 z (by omega) (by omega)) rfl
  have hN1 := hN.f9 (m := 9) (fun z a c => fr1 z (by omega) (by omega)) rfl
  have hS1 := hS.f9 (m := 14) (fun z a c => fr1 z (by omega) (by omega)) rfl
  have hSb1 := hS2.f9 (m := 14) (fun z a c => fr1 z (by omega) (by omega)) rfl
  refine J_istore (L' := [(5, _), (4, _), (3, _), (2, _), (1, _), (0, _)]) dL_law_1625 (by decide) rfl ?_
  refine J_aload_n dL_law_1627 rfl rfl ?_
  refine J_aload_n dL_law_1628 rfl rfl ?_
  refine J_iload dL_law_1629 rfl ?_
  refine J_iconst (v := 1) dL_law_1631 (by decide) ?_
  refine J_iadd dL_law_1632 ?_
  refine J_scr (q := i + 1) dL_law_1633 (nI_add i 1) (by omega) (by omega) ?_
  refine J_aload_n dL_law_1634 rfl rfl ?_
  refine J_iload dL_law_1635 rfl ?_
  refine J_iconst (v := 2) dL_law_1637 (by decide) ?_
  refine J_iadd dL_law_1638 ?_
  refine J_scr (q := i + 2) dL_law_1639 (nI_add i 2) (by omega) (by omega) ?_
  refine J_callVw (As := [_, _]) dL_law_1640 ml_L_224 cal_X9_tell_ im_X9_tell_ se_X9_tell_ (hM1.at 0 rfl) rfl rfl rfl (Nat.le_of_ble_eq_true rfl) ⟨by decide, by decide⟩ ⟨by omega, by omega⟩ (c_X9_tell_ hst hM1 hN1 hS1 hap hok hz (xx_scr G (i + 1)) (xx_scr G (i + 2))) (fun A2 hQ2 => ?_)
  obtain ⟨M2, S2, ms2, h02, hM2, hN2, hS2, hs2, hF2, hz2⟩ := hQ2
  have hX2 := hX1.f9 (m := 1) (fun z a c => hs2 z (by unfold isM; omega) (by omega)) rfl
  have hW2 := rdW.fr hW1 (fun z a c => hs2 z (by unfold isM; omega) (by omega))
  have hG2 := hG1.fr (fun z a c => hs2 z (by unfold isM; omega) (by omega))
  have hO2 := hO1.f9 (m := 1) (fun z a c => hs2 z (by unfold isM; omega) (by omega)) rfl
  have hSb2 := hSb1.rs hs2 (m := 14) rfl (by omega) hap2.s
  rw [← hF2] at hG2
  have hok2 := hG2.ok
  refine J_istore (L' := [(6, _), (5, _), (4, _), (3, _), (2, _), (1, _), (0, _)]) dL_law_1643 (by decide) rfl ?_
  refine J_aload_n dL_law_1645 rfl rfl ?_
  refine J_callVr (As := []) dL_law_1646 ml_L_117 cal_X9_thrown im_X9_thrown se_X9_thrown (hM2.at 0 rfl) rfl rfl rfl (Nat.le_of_ble_eq_true rfl) ⟨by decide, by decide⟩ ⟨by omega, by omega⟩ (c_X9_thrown hst hM2) ?_
  refine J_iload dL_law_1649 rfl ?_
  refine J_icmp_eq (tgt := 1656) dL_law_1651 rfl (fun h1651 => ?_) (fun h1651 => ?_)
  · refine J_iload dL_law_1656 rfl ?_
    refine J_if_ne (tgt := 1673) dL_law_1658 rfl (fun h1658 => ?_) (fun h1658 => ?_)
    · refine J_goto (tgt := 2062) dL_law_1673 rfl ?_
      refine xx_J.pick [2, 3, 4, 5, 6] rfl ?_
      exact cont _ _ _ _ ⟨T, len, eA, ru, cr, nw, _, r, S2, P, bp, bn, _, ⟨D, R0, sg, hX2, hW2, hD8, hG2⟩, ⟨_, vL, nl, _, hM2, hN2, hS2, hSb2, (htp.of (ms2.1 2 (by decide)) (ms2.2 1 (by decide))), hT1, ((ms2.1 3 (by decide)).trans hM3)⟩, hO2, ⟨hok2, hpl, hru, hrv, hrc, hz2⟩, (hplc.up en1)⟩ (by omega) (by omega)
    · refine J_aload_n dL_law_1661 rfl rfl ?_
      refine J_iconst (v := 0) dL_law_1662 (by decide) ?_
      refine J_laldN 0 dL_law_1663 (hO2.at 0 rfl) rfl (by omega) (by decide) ?_
      refine J_iload dL_law_1664 rfl ?_
      refine J_i2l dL_law_1666 rfl ?_
      refine J_lcmp dL_law_1667 ?_
      refine J_if_eq (tgt := 1673) dL_law_1668 rfl (fun h1668 => ?_) (fun h1668 => ?_)
      · refine J_goto (tgt := 2062) dL_law_1673 rfl ?_
        refine xx_J.pick [2, 3, 4, 5, 6] rfl ?_
        exact cont _ _ _ _ ⟨T, len, eA, ru, cr, nw, _, r, S2, P, bp, bn, _, ⟨D, R0, sg, hX2, hW2, hD8, hG2⟩, ⟨_, vL, nl, _, hM2, hN2, hS2, hSb2, (htp.of (ms2.1 2 (by decide)) (ms2.2 1 (by decide))), hT1, ((ms2.1 3 (by decide)).trans hM3)⟩, hO2, ⟨hok2, hpl, hru, hrv, hrc, hz2⟩, (hplc.up en1)⟩ (by omega) (by omega)
      · exact absurd (lg_eq.mpr (hf1 h1658)) h1668
  · exact absurd h02 h1651
set_option maxHeartbeats 2000000 in
theorem lc_32 (hst : l.stackTraces = false) (hbm : b + 46 ≤ bm) (hho : ho = bm + 48) (hi : i + 6 ≤ G.2.2.2 200) (hL : G.2.2.2 200 < 2147483648) (hI : lwI b bm ho n A) (hkj : k ≤ 600900 ∧ j ≤ 7290000) (cont : ∀ A' n' k' j', lwI b bm ho n' A' → k' ≤ k + 40 → j' ≤ j + 2300 → xx_J G l mL_law 2048 84000 601024 7293034 Post 2062 [(4, .int (nI i)), (3, .ref ho), (2, .ref bm), (1, .ref b), (0, .ref 160)] [] A' n' k' j') : xx_J G l mL_law 2048 84000 601024 7293034 Post 1676 [(4, .int (nI i)), (3, .ref ho), (2, .ref bm), (1, .ref b), (0, .ref 160)] [] A n k j := by
  obtain ⟨T, len, eA, ru, cr, nw, nb, r, S, P, bp, bn, f, ⟨D, R0, sg, hX, hW, hD8, hG⟩, ⟨M, vL, nl, S1, hM, hN, hS, hS2, htp, hT1, hM3⟩, hO, ⟨hok, hpl, hru, hrv, hrc, hz⟩, hplc⟩ := hI
  obtain ⟨hap, hap2, hna, hbp, hbn, hn1, hn2, hn3⟩ := id hplc
  refine J_aload_n dL_law_1676 rfl rfl ?_
  refine J_aload_n dL_law_1677 rfl rfl ?_
  refine J_callSX (As := [_, _]) dL_law_1678 ml_L_225 cal_L_tellByRules rfl sm_L_tellByRules rfl (Nat.le_of_ble_eq_true rfl) ⟨by decide, by decide⟩ ⟨by omega, by omega⟩ (c_L_tellByRules (a := (aTBR ru nb (fS S P))) hst (c_X6_tellByRules hst hX hG hrv hrc) hX hO (fun A1 h => hO.f9 (m := 1) (fun z a c => h.2 z (by omega)) rfl) k_TBR) (fun v1 A1 n1 _ hQ1 => ?_) (fun E A n _ hQ => absurd hQ.1 (fun z => nomatch z))
  obtain ⟨er1, en1, em1, Ak1, f1, ⟨hGk1, hsk1⟩, ho1, hO1, hf1⟩ := hQ1
  cases er1
  have fr1 : ∀ z, ¬ z = ho → (z < b + 16 ∨ b + 46 ≤ z) → A1 z = A z := fun z h1 h2 => (ho1 z h1).trans (hsk1 z h2)
  have hX1 := hX.f9 (m := 1) (fun z a c => fr1 z (by omega) (by omega)) rfl
  have hW1 := hW.fr (fun z a c => fr1 z (by omega) (by omega))
  have hG1 := hGk1.fr (fun z a c => ho1 z (by omega))
  have hM1 := hM.f9 (m := 48) (fun z a c => fr1 z (by omega) (by omega)) rfl
  have hN1 := hN.f9 (m := 9) (fun z a c => fr1 z (by omega) (by omega)) rfl
  have hS1 := hS.f9 (m := 14) (fun z a c => fr1 z (by omega) (by omega)) rfl
  have hSb1 := hS2.f9 (m := 14) (fun z a c => fr1 z (by omega) (by omega)) rfl
  refine J_istore (L' := [(5, _), (4, _), (3, _), (2, _), (1, _), (0, _)]) dL_law_1681 (by decide) rfl ?_
  refine J_aload_n dL_law_1683 rfl rfl ?_
  refine J_callVw (As := []) dL_law_1684 ml_L_227 cal_X9_tellByRules im_X9_tellByRules se_X9_tellByRules (hM1.at 0 rfl) rfl rfl rfl (Nat.le_of_ble_eq_true rfl) ⟨by decide, by decide⟩ ⟨by omega, by omega⟩ (c_X9_tellByRules hst hM1 hN1 hS1 hap hok hz hpl hru) (fun A2 hQ2 => ?_)
  obtain ⟨M2, S2, ms2, h02, hM2, hN2, hS2, hs2, hF2, hz2⟩ := hQ2
  have hX2 := hX1.f9 (m := 1) (fun z a c => hs2 z (by unfold isM; omega) (by omega)) rfl
  have hW2 := rdW.fr hW1 (fun z a c => hs2 z (by unfold isM; omega) (by omega))
  have hG2 := hG1.fr (fun z a c => hs2 z (by unfold isM; omega) (by omega))
  have hO2 := hO1.f9 (m := 1) (fun z a c => hs2 z (by unfold isM; omega) (by omega)) rfl
  have hSb2 := hSb1.rs hs2 (m := 14) rfl (by omega) hap2.s
  rw [← hF2] at hG2
  have hok2 := hG2.ok
  refine J_istore (L' := [(6, _), (5, _), (4, _), (3, _), (2, _), (1, _), (0, _)]) dL_law_1687 (by decide) rfl ?_
  refine J_aload_n dL_law_1689 rfl rfl ?_
  refine J_callVr (As := []) dL_law_1690 ml_L_117 cal_X9_thrown im_X9_thrown se_X9_thrown (hM2.at 0 rfl) rfl rfl rfl (Nat.le_of_ble_eq_true rfl) ⟨by decide, by decide⟩ ⟨by omega, by omega⟩ (c_X9_thrown hst hM2) ?_
  refine J_iload dL_law_1693 rfl ?_
  refine J_icmp_eq (tgt := 1700) dL_law_1695 rfl (fun h1695 => ?_) (fun h1695 => ?_)
  · refine J_iload dL_law_1700 rfl ?_
    refine J_if_ne (tgt := 1717) dL_law_1702 rfl (fun h1702 => ?_) (fun h1702 => ?_)
    · refine J_goto (tgt := 2062) dL_law_1717 rfl ?_
      refine xx_J.pick [2, 3, 4, 5, 6] rfl ?_
      exact cont _ _ _ _ ⟨T, len, eA, ru, cr, nw, _, r, S2, P, bp, bn, _, ⟨D, R0, sg, hX2, hW2, hD8, hG2⟩, ⟨_, vL, nl, _, hM2, hN2, hS2, hSb2, (htp.of (ms2.1 2 (by decide)) (ms2.2 1 (by decide))), hT1, ((ms2.1 3 (by decide)).trans hM3)⟩, hO2, ⟨hok2, hpl, hru, hrv, hrc, hz2⟩, (hplc.up en1)⟩ (by omega) (by omega)
    · refine J_aload_n dL_law_1705 rfl rfl ?_
      refine J_iconst (v := 0) dL_law_1706 (by decide) ?_
      refine J_laldN 0 dL_law_1707 (hO2.at 0 rfl) rfl (by omega) (by decide) ?_
      refine J_iload dL_law_1708 rfl ?_
      refine J_i2l dL_law_1710 rfl ?_
      refine J_lcmp dL_law_1711 ?_
      refine J_if_eq (tgt := 1717) dL_law_1712 rfl (fun h1712 => ?_) (fun h1712 => ?_)
      · refine J_goto (tgt := 2062) dL_law_1717 rfl ?_
        refine xx_J.pick [2, 3, 4, 5, 6] rfl ?_
        exact cont _ _ _ _ ⟨T, len, eA, ru, cr, nw, _, r, S2, P, bp, bn, _, ⟨D, R0, sg, hX2, hW2, hD8, hG2⟩, ⟨_, vL, nl, _, hM2, hN2, hS2, hSb2, (htp.of (ms2.1 2 (by decide)) (ms2.2 1 (by decide))), hT1, ((ms2.1 3 (by decide)).trans hM3)⟩, hO2, ⟨hok2, hpl, hru, hrv, hrc, hz2⟩, (hplc.up en1)⟩ (by omega) (by omega)
      · exact absurd (lg_eq.mpr (hf1 h1702)) h1712
  · exact absurd h02 h1695
set_option maxHeartbeats 2000000 in
theorem lc_33 (hst : l.stackTraces = false) (hbm : b + 46 ≤ bm) (hho : ho = bm + 48) (hi : i + 6 ≤ G.2.2.2 200) (hL : G.2.2.2 200 < 2147483648) (hI : lwI b bm ho n A) (hkj : k ≤ 600900 ∧ j ≤ 7290000) (cont : ∀ A' n' k' j', lwI b bm ho n' A' → k' ≤ k + 40 → j' ≤ j + 2300 → xx_J G l mL_law 2048 84000 601024 7293034 Post 2062 [(4, .int (nI i)), (3, .ref ho), (2, .ref bm), (1, .ref b), (0, .ref 160)] [] A' n' k' j') : xx_J G l mL_law 2048 84000 601024 7293034 Post 1720 [(4, .int (nI i)), (3, .ref ho), (2, .ref bm), (1, .ref b), (0, .ref 160)] [] A n k j := by
  obtain ⟨T, len, eA, ru, cr, nw, nb, r, S, P, bp, bn, f, ⟨D, R0, sg, hX, hW, hD8, hG⟩, ⟨M, vL, nl, S1, hM, hN, hS, hS2, htp, hT1, hM3⟩, hO, ⟨hok, hpl, hru, hrv, hrc, hz⟩, hplc⟩ := hI
  obtain ⟨hap, hap2, hna, hbp, hbn, hn1, hn2, hn3⟩ := id hplc
  refine J_aload_n dL_law_1720 rfl rfl ?_
  refine J_aload_n dL_law_1721 rfl rfl ?_
  refine J_iload dL_law_1722 rfl ?_
  refine J_iconst (v := 1) dL_law_1724 (by decide) ?_
  refine J_iadd dL_law_1725 ?_
  refine J_scr (q := i + 1) dL_law_1726 (nI_add i 1) (by omega) (by omega) ?_
  refine J_aload_n dL_law_1727 rfl rfl ?_
  refine J_callSX (As := [_, _, _]) dL_law_1728 ml_L_228 cal_L_turnIn rfl sm_L_turnIn rfl (Nat.le_of_ble_eq_true rfl) ⟨by decide, by decide⟩ ⟨by omega, by omega⟩ (c_L_turnIn (a := (aTurn (fS S P) (xx_scr G (i + 1)))) hst (c_X6_turnIn hst hX hG (xx_scr G (i + 1))) hX hO (fun A1 h => hO.f9 (m := 1) (fun z a c => h.2 z (by omega)) rfl) k_Turn z_Turn) (fun v1 A1 n1 _ hQ1 => ?_) (fun E A n _ hQ => absurd hQ.1 (fun z => nomatch z))
  obtain ⟨er1, en1, em1, Ak1, f1, ⟨hGk1, hsk1⟩, ho1, hO1, hf1⟩ := hQ1
  cases er1
  have fr1 : ∀ z, ¬ z = ho → (z < b + 16 ∨ b + 46 ≤ z) → A1 z = A z := fun z h1 h2 => (ho1 z h1).trans (hsk1 z h2)
  have hX1 := hX.f9 (m := 1) (fun z a c => fr1 z (by omega) (by omega)) rfl
  have hW1 := hW.fr (fun z a c => fr1 z (by omega) (by omega))
  have hG1 := hGk1.fr (fun z a c => ho1 z (by omega))
  have hM1 := hM.f9 (m := 48) (fun z a c => fr1 z (by omega) (by omega)) rfl
  have hN1 := hN.f9 (m := 9) (fun z a c => fr1 z (by omega) (by omega)) rfl
  have hS1 := hS.f9 (m := 14) (fun z a c => fr1 z (by omega) (by omega)) rfl
  have hSb1 := hS2.f9 (m := 14) (fun z a c => fr1 z (by omega) (by omega)) rfl
  refine J_istore (L' := [(5, _), (4, _), (3, _), (2, _), (1, _), (0, _)]) dL_law_1731 (by decide) rfl ?_
  refine J_aload_n dL_law_1733 rfl rfl ?_
  refine J_aload_n dL_law_1734 rfl rfl ?_
  refine J_iload dL_law_1735 rfl ?_
  refine J_iconst (v := 1) dL_law_1737 (by decide) ?_
  refine J_iadd dL_law_1738 ?_
  refine J_scr (q := i + 1) dL_law_1739 (nI_add i 1) (by omega) (by omega) ?_
  refine J_callVw (As := [_]) dL_law_1740 ml_L_230 cal_X9_turnIn im_X9_turnIn se_X9_turnIn (hM1.at 0 rfl) rfl rfl rfl (Nat.le_of_ble_eq_true rfl) ⟨by decide, by decide⟩ ⟨by omega, by omega⟩ (c_X9_turnIn hst hM1 hN1 hS1 hap hok hz (xx_scr G (i + 1))) (fun A2 hQ2 => ?_)
  obtain ⟨M2, S2, ms2, h02, hM2, hN2, hS2, hs2, hF2, hz2⟩ := hQ2
  have hX2 := hX1.f9 (m := 1) (fun z a c => hs2 z (by unfold isM; omega) (by omega)) rfl
  have hW2 := rdW.fr hW1 (fun z a c => hs2 z (by unfold isM; omega) (by omega))
  have hG2 := hG1.fr (fun z a c => hs2 z (by unfold isM; omega) (by omega))
  have hO2 := hO1.f9 (m := 1) (fun z a c => hs2 z (by unfold isM; omega) (by omega)) rfl
  have hSb2 := hSb1.rs hs2 (m := 14) rfl (by omega) hap2.s
  rw [← hF2] at hG2
  have hok2 := hG2.ok
  refine J_istore (L' := [(6, _), (5, _), (4, _), (3, _), (2, _), (1, _), (0, _)]) dL_law_1743 (by decide) rfl ?_
  refine J_aload_n dL_law_1745 rfl rfl ?_
  refine J_callVr (As := []) dL_law_1746 ml_L_117 cal_X9_thrown im_X9_thrown se_X9_thrown (hM2.at 0 rfl) rfl rfl rfl (Nat.le_of_ble_eq_true rfl) ⟨by decide, by decide⟩ ⟨by omega, by omega⟩ (c_X9_thrown hst hM2) ?_
  refine J_iload dL_law_1749 rfl ?_
  refine J_icmp_eq (tgt := 1756) dL_law_1751 rfl (fun h1751 => ?_) (fun h1751 => ?_)
  · refine J_iload dL_law_1756 rfl ?_
    refine J_if_ne (tgt := 1780) dL_law_1758 rfl (fun h1758 => ?_) (fun h1758 => ?_)
    · refine J_goto (tgt := 2062) dL_law_1780 rfl ?_
      refine xx_J.pick [2, 3, 4, 5, 6] rfl ?_
      exact cont _ _ _ _ ⟨T, len, eA, ru, cr, nw, _, r, S2, P, bp, bn, _, ⟨D, R0, sg, hX2, hW2, hD8, hG2⟩, ⟨_, vL, nl, _, hM2, hN2, hS2, hSb2, (htp.of (ms2.1 2 (by decide)) (ms2.2 1 (by decide))), hT1, ((ms2.1 3 (by decide)).trans hM3)⟩, hO2, ⟨hok2, hpl, hru, hrv, hrc, hz2⟩, (hplc.up en1)⟩ (by omega) (by omega)
    · refine J_aload_n dL_law_1761 rfl rfl ?_
      refine J_iconst (v := 0) dL_law_1762 (by decide) ?_
      refine J_laldN 0 dL_law_1763 (hO2.at 0 rfl) rfl (by omega) (by decide) ?_
      refine J_iload dL_law_1764 rfl ?_
      refine J_if_eq (tgt := 1773) dL_law_1766 rfl (fun h1766 => ?_) (fun h1766 => ?_)
      · have hb0 : (aTurn (fS S P) (xx_scr G (i + 1))).2 = 0 := h1766
        have hv9 := hf1 h1758
        rw [hb0] at hv9
        refine J_lconst (v := 0) dL_law_1773 (by decide) ?_
        refine J_lcmp dL_law_1774 ?_
        refine J_if_eq (tgt := 1780) dL_law_1775 rfl (fun h1775 => ?_) (fun h1775 => ?_)
        · refine J_goto (tgt := 2062) dL_law_1780 rfl ?_
          refine xx_J.pick [2, 3, 4, 5, 6] rfl ?_
          exact cont _ _ _ _ ⟨T, len, eA, ru, cr, nw, _, r, S2, P, bp, bn, _, ⟨D, R0, sg, hX2, hW2, hD8, hG2⟩, ⟨_, vL, nl, _, hM2, hN2, hS2, hSb2, (htp.of (ms2.1 2 (by decide)) (ms2.2 1 (by decide))), hT1, ((ms2.1 3 (by decide)).trans hM3)⟩, hO2, ⟨hok2, hpl, hru, hrv, hrc, hz2⟩, (hplc.up en1)⟩ (by omega) (by omega)
        · exact absurd (lg_eq.mpr hv9) h1775
      · have hb0 : (aTurn (fS S P) (xx_scr G (i + 1))).2 = 1 := (z_Turn h1758).resolve_left h1766
        have hv9 := hf1 h1758
        rw [hb0] at hv9
        refine J_lconst (v := 1) dL_law_1769 (by decide) ?_
        refine J_goto (tgt := 1774) dL_law_1770 rfl ?_
        refine J_lcmp dL_law_1774 ?_
        refine J_if_eq (tgt := 1780) dL_law_1775 rfl (fun h1775 => ?_) (fun h1775 => ?_)
        · refine J_goto (tgt := 2062) dL_law_1780 rfl ?_
          refine xx_J.pick [2, 3, 4, 5, 6] rfl ?_
          exact cont _ _ _ _ ⟨T, len, eA, ru, cr, nw, _, r, S2, P, bp, bn, _, ⟨D, R0, sg, hX2, hW2, hD8, hG2⟩, ⟨_, vL, nl, _, hM2, hN2, hS2, hSb2, (htp.of (ms2.1 2 (by decide)) (ms2.2 1 (by decide))), hT1, ((ms2.1 3 (by decide)).trans hM3)⟩, hO2, ⟨hok2, hpl, hru, hrv, hrc, hz2⟩, (hplc.up en1)⟩ (by omega) (by omega)
        · exact absurd (lg_eq.mpr hv9) h1775
  · exact absurd h02 h1751
end XLCc
