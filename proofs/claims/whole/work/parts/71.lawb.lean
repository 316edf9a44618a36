/-! THE LAW: its cases -/
section XLCb
variable {G : xx_G} {l : Launch} {A : xx_H} {n b bm ho i k j : Nat} {Post : xx_Q}
set_option maxHeartbeats 2000000 in
theorem lc_19 (hst : l.stackTraces = false) (hbm : b + 46 ≤ bm) (hho : ho = bm + 48) (hi : i + 6 ≤ G.2.2.2 200) (hL : G.2.2.2 200 < 2147483648) (hI : lwI b bm ho n A) (hkj : k ≤ 600900 ∧ j ≤ 7290000) (cont : ∀ A' n' k' j', lwI b bm ho n' A' → k' ≤ k + 40 → j' ≤ j + 2300 → xx_J G l mL_law 2048 84000 601024 7293034 Post 2062 [(4, .int (nI i)), (3, .ref ho), (2, .ref bm), (1, .ref b), (0, .ref 160)] [] A' n' k' j') : xx_J G l mL_law 2048 84000 601024 7293034 Post 941 [(4, .int (nI i)), (3, .ref ho), (2, .ref bm), (1, .ref b), (0, .ref 160)] [] A n k j := by
  obtain ⟨T, len, eA, ru, cr, nw, nb, r, S, P, bp, bn, f, ⟨D, R0, sg, hX, hW, hD8, hG⟩, ⟨M, vL, nl, S1, hM, hN, hS, hS2, htp, hT1, hM3⟩, hO, ⟨hok, hpl, hru, hrv, hrc, hz⟩, hplc⟩ := hI
  obtain ⟨hap, hap2, hna, hbp, hbn, hn1, hn2, hn3⟩ := id hplc
  refine J_aload_n dL_law_941 rfl rfl ?_
  refine J_aload_n dL_law_942 rfl rfl ?_
  refine J_iload dL_law_943 rfl ?_
  refine J_iconst (v := 1) dL_law_945 (by decide) ?_
  refine J_iadd dL_law_946 ?_
  refine J_scr (q := i + 1) dL_law_947 (nI_add i 1) (by omega) (by omega) ?_
  refine J_aload_n dL_law_948 rfl rfl ?_
  refine J_callSX (As := [_, _, _]) dL_law_949 ml_L_184 cal_L_pointsOfMet rfl sm_L_pointsOfMet rfl (Nat.le_of_ble_eq_true rfl) ⟨by decide, by decide⟩ ⟨by omega, by omega⟩ (c_L_pointsOfMet (a := (aRpt nw (fS S P) (xx_scr G (i + 1)))) hst (c_X6_pointsOfMet hst hX hG (xx_scr G (i + 1))) hX hO (fun A1 h => hO.f9 (m := 1) (fun z a c => h.2 z (by omega)) rfl) k_Rpt) (fun v1 A1 n1 _ hQ1 => ?_) (fun E A n _ hQ => absurd hQ.1 (fun z => nomatch z))
  obtain ⟨er1, en1, em1, Ak1, f1, ⟨hGk1, hsk1⟩, ho1, hO1, hf1⟩ := hQ1
  cases er1
  have fr1 : ∀ z, ¬ z = ho → (z < b + 16 ∨ b + 46 ≤ z) → A1 z = A z := fun z h1 h2 => (ho1 z h1).trans (hsk1 z h2)
  have hX1 := hX.f9 (m := 1) (fun z a c => fr1 z (by omega) (by omega)) rfl
  have hW1 := hW.fr (fun z a c => fr1 z (by omega) (by omega))
  have hG1 := hGk1.fr (fun z a c => ho1 z (by omega))
  have hM1 := hM.f9 (m := 48) (fun z a c => fr1 z (by omega) (by omega)) rfl
  have hN1 := hN.f9 (m := 9) (fun z a c => fr1 z (by omega) (by omega)) rfl
  have hS1 := hS.f9 (m := 14) (fun z a c => fr1 z (by omega) (by omega)) rfl
  have hSb1 := hS2.f9 (m := 14) (fun z a c => fr1 z (by omega) (by omega)) rfl
  refine J_istore (L' := [(5, _), (4, _), (3, _), (2, _), (1, _), (0, _)]) dL_law_952 (by decide) rfl ?_
  refine J_aload_n dL_law_954 rfl rfl ?_
  refine J_aload_n dL_law_955 rfl rfl ?_
  refine J_iload dL_law_956 rfl ?_
  refine J_iconst (v := 1) dL_law_958 (by decide) ?_
  refine J_iadd dL_law_959 ?_
  refine J_scr (q := i + 1) dL_law_960 (nI_add i 1) (by omega) (by omega) ?_
  refine J_callVw (As := [_]) dL_law_961 ml_L_186 cal_X9_pointsOfMet im_X9_pointsOfMet se_X9_pointsOfMet (hM1.at 0 rfl) rfl rfl rfl (Nat.le_of_ble_eq_true rfl) ⟨by decide, by decide⟩ ⟨by omega, by omega⟩ (c_X9_pointsOfMet hst hM1 hN1 hS1 hap hok (xx_scr G (i + 1))) (fun A2 hQ2 => ?_)
  obtain ⟨M2, ms2, h02, hM2, hs2⟩ := hQ2
  have hX2 := hX1.f9 (m := 1) (fun z a c => hs2 z (by unfold isM; omega)) rfl
  have hW2 := rdW.fr hW1 (fun z a c => hs2 z (by unfold isM; omega))
  have hG2 := hG1.fr (fun z a c => hs2 z (by unfold isM; omega))
  have hO2 := hO1.f9 (m := 1) (fun z a c => hs2 z (by unfold isM; omega)) rfl
  have hN2 := hN1.mf hs2 (m := 9) rfl hap.p
  have hS2 := hS1.mf hs2 (m := 14) rfl hap.s
  have hSb2 := hSb1.mf hs2 (m := 14) rfl hap2.s
  refine J_istore (L' := [(6, _), (5, _), (4, _), (3, _), (2, _), (1, _), (0, _)]) dL_law_964 (by decide) rfl ?_
  refine J_aload_n dL_law_966 rfl rfl ?_
  refine J_callVr (As := []) dL_law_967 ml_L_117 cal_X9_thrown im_X9_thrown se_X9_thrown (hM2.at 0 rfl) rfl rfl rfl (Nat.le_of_ble_eq_true rfl) ⟨by decide, by decide⟩ ⟨by omega, by omega⟩ (c_X9_thrown hst hM2) ?_
  refine J_iload dL_law_970 rfl ?_
  refine J_icmp_eq (tgt := 977) dL_law_972 rfl (fun h972 => ?_) (fun h972 => ?_)
  · refine J_iload dL_law_977 rfl ?_
    refine J_if_ne (tgt := 994) dL_law_979 rfl (fun h979 => ?_) (fun h979 => ?_)
    · refine J_goto (tgt := 2062) dL_law_994 rfl ?_
      refine xx_J.pick [2, 3, 4, 5, 6] rfl ?_
      exact cont _ _ _ _ ⟨T, len, eA, ru, cr, nw, _, r, S, P, bp, bn, _, ⟨D, R0, sg, hX2, hW2, hD8, hG2⟩, ⟨_, vL, nl, _, hM2, hN2, hS2, hSb2, (htp.of (ms2.1 2 (by decide)) (ms2.2 1 (by decide))), hT1, ((ms2.1 3 (by decide)).trans hM3)⟩, hO2, ⟨hok, hpl, hru, hrv, hrc, hz⟩, (hplc.up en1)⟩ (by omega) (by omega)
    · refine J_aload_n dL_law_982 rfl rfl ?_
      refine J_iconst (v := 0) dL_law_983 (by decide) ?_
      refine J_laldN 0 dL_law_984 (hO2.at 0 rfl) rfl (by omega) (by decide) ?_
      refine J_iload dL_law_985 rfl ?_
      refine J_i2l dL_law_987 rfl ?_
      refine J_lcmp dL_law_988 ?_
      refine J_if_eq (tgt := 994) dL_law_989 rfl (fun h989 => ?_) (fun h989 => ?_)
      · refine J_goto (tgt := 2062) dL_law_994 rfl ?_
        refine xx_J.pick [2, 3, 4, 5, 6] rfl ?_
        exact cont _ _ _ _ ⟨T, len, eA, ru, cr, nw, _, r, S, P, bp, bn, _, ⟨D, R0, sg, hX2, hW2, hD8, hG2⟩, ⟨_, vL, nl, _, hM2, hN2, hS2, hSb2, (htp.of (ms2.1 2 (by decide)) (ms2.2 1 (by decide))), hT1, ((ms2.1 3 (by decide)).trans hM3)⟩, hO2, ⟨hok, hpl, hru, hrv, hrc, hz⟩, (hplc.up en1)⟩ (by omega) (by omega)
      · exact absurd (lg_eq.mpr (hf1 h979)) h989
  · exact absurd h02 h972
set_option maxHeartbeats 2000000 in
theorem lc_20 (hst : l.stackTraces = false) (hbm : b + 46 ≤ bm) (hho : ho = bm + 48) (hi : i + 6 ≤ G.2.2.2 200) (hL : G.2.2.2 200 < 2147483648) (hI : lwI b bm ho n A) (hkj : k ≤ 600900 ∧ j ≤ 7290000) (cont : ∀ A' n' k' j', lwI b bm ho n' A' → k' ≤ k + 40 → j' ≤ j + 2300 → xx_J G l mL_law 2048 84000 601024 7293034 Post 2062 [(4, .int (nI i)), (3, .ref ho), (2, .ref bm), (1, .ref b), (0, .ref 160)] [] A' n' k' j') : xx_J G l mL_law 2048 84000 601024 7293034 Post 997 [(4, .int (nI i)), (3, .ref ho), (2, .ref bm), (1, .ref b), (0, .ref 160)] [] A n k j := by
  obtain ⟨T, len, eA, ru, cr, nw, nb, r, S, P, bp, bn, f, ⟨D, R0, sg, hX, hW, hD8, hG⟩, ⟨M, vL, nl, S1, hM, hN, hS, hS2, htp, hT1, hM3⟩, hO, ⟨hok, hpl, hru, hrv, hrc, hz⟩, hplc⟩ := hI
  obtain ⟨hap, hap2, hna, hbp, hbn, hn1, hn2, hn3⟩ := id hplc
  refine J_aload_n dL_law_997 rfl rfl ?_
  refine J_aload_n dL_law_998 rfl rfl ?_
  refine J_iload dL_law_999 rfl ?_
  refine J_iconst (v := 1) dL_law_1001 (by decide) ?_
  refine J_iadd dL_law_1002 ?_
  refine J_scr (q := i + 1) dL_law_1003 (nI_add i 1) (by omega) (by omega) ?_
  refine J_aload_n dL_law_1004 rfl rfl ?_
  refine J_callSX (As := [_, _, _]) dL_law_1005 ml_L_187 cal_L_rankOf rfl sm_L_rankOf rfl (Nat.le_of_ble_eq_true rfl) ⟨by decide, by decide⟩ ⟨by omega, by omega⟩ (c_L_rankOf (a := (aRnk nw (fS S P) (xx_scr G (i + 1)))) hst (c_X6_rankOf hst hX hG (xx_scr G (i + 1))) hX hO (fun A1 h => hO.f9 (m := 1) (fun z a c => h.2 z (by omega)) rfl) k_Rnk) (fun v1 A1 n1 _ hQ1 => ?_) (fun E A n _ hQ => absurd hQ.1 (fun z => nomatch z))
  obtain ⟨er1, en1, em1, Ak1, f1, ⟨hGk1, hsk1⟩, ho1, hO1, hf1⟩ := hQ1
  cases er1
  have fr1 : ∀ z, ¬ z = ho → (z < b + 16 ∨ b + 46 ≤ z) → A1 z = A z := fun z h1 h2 => (ho1 z h1).trans (hsk1 z h2)
  have hX1 := hX.f9 (m := 1) (fun z a c => fr1 z (by omega) (by omega)) rfl
  have hW1 := hW.fr (fun z a c => fr1 z (by omega) (by omega))
  have hG1 := hGk1.fr (fun z a c => ho1 z (by omega))
  have hM1 := hM.f9 (m := 48) (fun z a c => fr1 z (by omega) (by omega)) rfl
  have hN1 := hN.f9 (m := 9) (fun z a c => fr1 z (by omega) (by omega)) rfl
  have hS1 := hS.f9 (m := 14) (fun z a c => fr1 z (by omega) (by omega)) rfl
  have hSb1 := hS2.f9 (m := 14) (fun z a c => fr1 z (by omega) (by omega)) rfl
  refine J_istore (L' := [(5, _), (4, _), (3, _), (2, _), (1, _), (0, _)]) dL_law_1008 (by decide) rfl ?_
  refine J_aload_n dL_law_1010 rfl rfl ?_
  refine J_aload_n dL_law_1011 rfl rfl ?_
  refine J_iload dL_law_1012 rfl ?_
  refine J_iconst (v := 1) dL_law_1014 (by decide) ?_
  refine J_iadd dL_law_1015 ?_
  refine J_scr (q := i + 1) dL_law_1016 (nI_add i 1) (by omega) (by omega) ?_
  refine J_callVw (As := [_]) dL_law_1017 ml_L_189 cal_X9_rankOf im_X9_rankOf se_X9_rankOf (hM1.at 0 rfl) rfl rfl rfl (Nat.le_of_ble_eq_true rfl) ⟨by decide, by decide⟩ ⟨by omega, by omega⟩ (c_X9_rankOf hst hM1 hN1 hS1 hap hok (xx_scr G (i + 1))) (fun A2 hQ2 => ?_)
  obtain ⟨M2, ms2, h02, hM2, hs2⟩ := hQ2
  have hX2 := hX1.f9 (m := 1) (fun z a c => hs2 z (by unfold isM; omega)) rfl
  have hW2 := rdW.fr hW1 (fun z a c => hs2 z (by unfold isM; omega))
  have hG2 := hG1.fr (fun z a c => hs2 z (by unfold isM; omega))
  have hO2 := hO1.f9 (m := 1) (fun z a c => hs2 z (by unfold isM; omega)) rfl
  have hN2 := hN1.mf hs2 (m := 9) rfl hap.p
  have hS2 := hS1.mf hs2 (m := 14) rfl hap.s
  have hSb2 := hSb1.mf hs2 (m := 14) rfl hap2.s
  refine J_istore (L' := [(6, _), (5, _), (4, _), (3, _), (2, _), (1, _), (0, _)]) dL_law_1020 (by decide) rfl ?_
  refine J_aload_n dL_law_1022 rfl rfl ?_
  refine J_callVr (As := []) dL_law_1023 ml_L_117 cal_X9_thrown im_X9_thrown se_X9_thrown (hM2.at 0 rfl) rfl rfl rfl (Nat.le_of_ble_eq_true rfl) ⟨by decide, by decide⟩ ⟨by omega, by omega⟩ (c_X9_thrown hst hM2) ?_
  refine J_iload dL_law_1026 rfl ?_
  refine J_icmp_eq (tgt := 1033) dL_law_1028 rfl (fun h1028 => ?_) (fun h1028 => ?_)
  · refine J_iload dL_law_1033 rfl ?_
    refine J_if_ne (tgt := 1050) dL_law_1035 rfl (fun h1035 => ?_) (fun h1035 => ?_)
    · refine J_goto (tgt := 2062) dL_law_1050 rfl ?_
      refine xx_J.pick [2, 3, 4, 5, 6] rfl ?_
      exact cont _ _ _ _ ⟨T, len, eA, ru, cr, nw, _, r, S, P, bp, bn, _, ⟨D, R0, sg, hX2, hW2, hD8, hG2⟩, ⟨_, vL, nl, _, hM2, hN2, hS2, hSb2, (htp.of (ms2.1 2 (by decide)) (ms2.2 1 (by decide))), hT1, ((ms2.1 3 (by decide)).trans hM3)⟩, hO2, ⟨hok, hpl, hru, hrv, hrc, hz⟩, (hplc.up en1)⟩ (by omega) (by omega)
    · refine J_aload_n dL_law_1038 rfl rfl ?_
      refine J_iconst (v := 0) dL_law_1039 (by decide) ?_
      refine J_laldN 0 dL_law_1040 (hO2.at 0 rfl) rfl (by omega) (by decide) ?_
      refine J_iload dL_law_1041 rfl ?_
      refine J_i2l dL_law_1043 rfl ?_
      refine J_lcmp dL_law_1044 ?_
      refine J_if_eq (tgt := 1050) dL_law_1045 rfl (fun h1045 => ?_) (fun h1045 => ?_)
      · refine J_goto (tgt := 2062) dL_law_1050 rfl ?_
        refine xx_J.pick [2, 3, 4, 5, 6] rfl ?_
        exact cont _ _ _ _ ⟨T, len, eA, ru, cr, nw, _, r, S, P, bp, bn, _, ⟨D, R0, sg, hX2, hW2, hD8, hG2⟩, ⟨_, vL, nl, _, hM2, hN2, hS2, hSb2, (htp.of (ms2.1 2 (by decide)) (ms2.2 1 (by decide))), hT1, ((ms2.1 3 (by decide)).trans hM3)⟩, hO2, ⟨hok, hpl, hru, hrv, hrc, hz⟩, (hplc.up en1)⟩ (by omega) (by omega)
      · exact absurd (lg_eq.mpr (hf1 h1035)) h1045
  · exact absurd h02 h1028
set_option maxHeartbeats 2000000 in
theorem lc_22 (hst : l.stackTraces = false) (hbm : b + 46 ≤ bm) (hho : ho = bm + 48) (hi : i + 6 ≤ G.2.2.2 200) (hL : G.2.2.2 200 < 2147483648) (hI : lwI b bm ho n A) (hkj : k ≤ 600900 ∧ j ≤ 7290000) (cont : ∀ A' n' k' j', lwI b bm ho n' A' → k' ≤ k + 40 → j' ≤ j + 2300 → xx_J G l mL_law 2048 84000 601024 7293034 Post 2062 [(4, .int (nI i)), (3, .ref ho), (2, .ref bm), (1, .ref b), (0, .ref 160)] [] A' n' k' j') : xx_J G l mL_law 2048 84000 601024 7293034 Post 1116 [(4, .int (nI i)), (3, .ref ho), (2, .ref bm), (1, .ref b), (0, .ref 160)] [] A n k j := by
  obtain ⟨T, len, eA, ru, cr, nw, nb, r, S, P, bp, bn, f, ⟨D, R0, sg, hX, hW, hD8, hG⟩, ⟨M, vL, nl, S1, hM, hN, hS, hS2, htp, hT1, hM3⟩, hO, ⟨hok, hpl, hru, hrv, hrc, hz⟩, hplc⟩ := hI
  obtain ⟨hap, hap2, hna, hbp, hbn, hn1, hn2, hn3⟩ := id hplc
  refine J_aload_n dL_law_1116 rfl rfl ?_
  refine J_aload_n dL_law_1117 rfl rfl ?_
  refine J_iload dL_law_1118 rfl ?_
  refine J_iconst (v := 1) dL_law_1120 (by decide) ?_
  refine J_iadd dL_law_1121 ?_
  refine J_scr (q := i + 1) dL_law_1122 (nI_add i 1) (by omega) (by omega) ?_
  refine J_aload_n dL_law_1123 rfl rfl ?_
  refine J_callSX (As := [_, _, _]) dL_law_1124 ml_L_193 cal_L_wrestlerAt rfl sm_L_wrestlerAt rfl (Nat.le_of_ble_eq_true rfl) ⟨by decide, by decide⟩ ⟨by omega, by omega⟩ (c_L_wrestlerAt (a := (aAt nw (fS S P) (xx_scr G (i + 1)))) hst (c_X6_wrestlerAt hst hX hG (xx_scr G (i + 1))) hX hO (fun A1 h => hO.f9 (m := 1) (fun z a c => h.2 z (by omega)) rfl) k_At) (fun v1 A1 n1 _ hQ1 => ?_) (fun E A n _ hQ => absurd hQ.1 (fun z => nomatch z))
  obtain ⟨er1, en1, em1, Ak1, f1, ⟨hGk1, hsk1⟩, ho1, hO1, hf1⟩ := hQ1
  cases er1
  have fr1 : ∀ z, ¬ z = ho → (z < b + 16 ∨ b + 46 ≤ z) → A1 z = A z := fun z h1 h2 => (ho1 z h1).trans (hsk1 z h2)
  have hX1 := hX.f9 (m := 1) (fun z a c => fr1 z (by omega) (by omega)) rfl
  have hW1 := hW.fr (fun z a c => fr1 z (by omega) (by omega))
  have hG1 := hGk1.fr (fun z a c => ho1 z (by omega))
  have hM1 := hM.f9 (m := 48) (fun z a c => fr1 z (by omega) (by omega)) rfl
  have hN1 := hN.f9 (m := 9) (fun z a c => fr1 z (by omega) (by omega)) rfl
  have hS1 := hS.f9 (m := 14) (fun z a c => fr1 z (by omega) (by omega)) rfl
  have hSb1 := hS2.f9 (m := 14) (fun z a c => fr1 z (by omega) (by omega)) rfl
  refine J_istore (L' := [(5, _), (4, _), (3, _), (2, _), (1, _), (0, _)]) dL_law_1127 (by decide) rfl ?_
  refine J_aload_n dL_law_1129 rfl rfl ?_
  refine J_aload_n dL_law_1130 rfl rfl ?_
  refine J_iload dL_law_1131 rfl ?_
  refine J_iconst (v := 1) dL_law_1133 (by decide) ?_
  refine J_iadd dL_law_1134 ?_
  refine J_scr (q := i + 1) dL_law_1135 (nI_add i 1) (by omega) (by omega) ?_
  refine J_callVw (As := [_]) dL_law_1136 ml_L_195 cal_X9_wrestlerAt im_X9_wrestlerAt se_X9_wrestlerAt (hM1.at 0 rfl) rfl rfl rfl (Nat.le_of_ble_eq_true rfl) ⟨by decide, by decide⟩ ⟨by omega, by omega⟩ (c_X9_wrestlerAt hst hM1 hN1 hS1 hap hok (xx_scr G (i + 1))) (fun A2 hQ2 => ?_)
  obtain ⟨M2, ms2, h02, hM2, hs2⟩ := hQ2
  have hX2 := hX1.f9 (m := 1) (fun z a c => hs2 z (by unfold isM; omega)) rfl
  have hW2 := rdW.fr hW1 (fun z a c => hs2 z (by unfold isM; omega))
  have hG2 := hG1.fr (fun z a c => hs2 z (by unfold isM; omega))
  have hO2 := hO1.f9 (m := 1) (fun z a c => hs2 z (by unfold isM; omega)) rfl
  have hN2 := hN1.mf hs2 (m := 9) rfl hap.p
  have hS2 := hS1.mf hs2 (m := 14) rfl hap.s
  have hSb2 := hSb1.mf hs2 (m := 14) rfl hap2.s
  refine J_istore (L' := [(6, _), (5, _), (4, _), (3, _), (2, _), (1, _), (0, _)]) dL_law_1139 (by decide) rfl ?_
  refine J_aload_n dL_law_1141 rfl rfl ?_
  refine J_callVr (As := []) dL_law_1142 ml_L_117 cal_X9_thrown im_X9_thrown se_X9_thrown (hM2.at 0 rfl) rfl rfl rfl (Nat.le_of_ble_eq_true rfl) ⟨by decide, by decide⟩ ⟨by omega, by omega⟩ (c_X9_thrown hst hM2) ?_
  refine J_iload dL_law_1145 rfl ?_
  refine J_icmp_eq (tgt := 1152) dL_law_1147 rfl (fun h1147 => ?_) (fun h1147 => ?_)
  · refine J_iload dL_law_1152 rfl ?_
    refine J_if_ne (tgt := 1169) dL_law_1154 rfl (fun h1154 => ?_) (fun h1154 => ?_)
    · refine J_goto (tgt := 2062) dL_law_1169 rfl ?_
      refine xx_J.pick [2, 3, 4, 5, 6] rfl ?_
      exact cont _ _ _ _ ⟨T, len, eA, ru, cr, nw, _, r, S, P, bp, bn, _, ⟨D, R0, sg, hX2, hW2, hD8, hG2⟩, ⟨_, vL, nl, _, hM2, hN2, hS2, hSb2, (htp.of (ms2.1 2 (by decide)) (ms2.2 1 (by decide))), hT1, ((ms2.1 3 (by decide)).trans hM3)⟩, hO2, ⟨hok, hpl, hru, hrv, hrc, hz⟩, (hplc.up en1)⟩ (by omega) (by omega)
    · refine J_aload_n dL_law_1157 rfl rfl ?_
      refine J_iconst (v := 0) dL_law_1158 (by decide) ?_
      refine J_laldN 0 dL_law_1159 (hO2.at 0 rfl) rfl (by omega) (by decide) ?_
      refine J_iload dL_law_1160 rfl ?_
      refine J_i2l dL_law_1162 rfl ?_
      refine J_lcmp dL_law_1163 ?_
      refine J_if_eq (tgt := 1169) dL_law_1164 rfl (fun h1164 => ?_) (fun h1164 => ?_)
      · refine J_goto (tgt := 2062) dL_law_1169 rfl ?_
        refine xx_J.pick [2, 3, 4, 5, 6] rfl ?_
        exact cont _ _ _ _ ⟨T, len, eA, ru, cr, nw, _, r, S, P, bp, bn, _, ⟨D, R0, sg, hX2, hW2, hD8, hG2⟩, ⟨_, vL, nl, _, hM2, hN2, hS2, hSb2, (htp.of (ms2.1 2 (by decide)) (ms2.2 1 (by decide))), hT1, ((ms2.1 3 (by decide)).trans hM3)⟩, hO2, ⟨hok, hpl, hru, hrv, hrc, hz⟩, (hplc.up en1)⟩ (by omega) (by omega)
      · exact absurd (lg_eq.mpr (hf1 h1154)) h1164
  · exact absurd h02 h1147
set_option maxHeartbeats 2000000 in
theorem lc_23 (hst : l.stackTraces = false) (hbm : b + 46 ≤ bm) (hho : ho = bm + 48) (hi : i + 6 ≤ G.2.2.2 200) (hL : G.2.2.2 200 < 2147483648) (hI : lwI b bm ho n A) (hkj : k ≤ 600900 ∧ j ≤ 7290000) (cont : ∀ A' n' k' j', lwI b bm ho n' A' → k' ≤ k + 40 → j' ≤ j + 2300 → xx_J G l mL_law 2048 84000 601024 7293034 Post 2062 [(4, .int (nI i)), (3, .ref ho), (2, .ref bm), (1, .ref b), (0, .ref 160)] [] A' n' k' j') : xx_J G l mL_law 2048 84000 601024 7293034 Post 1172 [(4, .int (nI i)), (3, .ref ho), (2, .ref bm), (1, .ref b), (0, .ref 160)] [] A n k j := by
  obtain ⟨T, len, eA, ru, cr, nw, nb, r, S, P, bp, bn, f, ⟨D, R0, sg, hX, hW, hD8, hG⟩, ⟨M, vL, nl, S1, hM, hN, hS, hS2, htp, hT1, hM3⟩, hO, ⟨hok, hpl, hru, hrv, hrc, hz⟩, hplc⟩ := hI
  obtain ⟨hap, hap2, hna, hbp, hbn, hn1, hn2, hn3⟩ := id hplc
  refine J_aload_n dL_law_1172 rfl rfl ?_
  refine J_aload_n dL_law_1173 rfl rfl ?_
  refine J_iload dL_law_1174 rfl ?_
  refine J_iconst (v := 1) dL_law_1176 (by decide) ?_
  refine J_iadd dL_law_1177 ?_
  refine J_scr (q := i + 1) dL_law_1178 (nI_add i 1) (by omega) (by omega) ?_
  refine J_aload_n dL_law_1179 rfl rfl ?_
  refine J_iload dL_law_1180 rfl ?_
  refine J_iconst (v := 2) dL_law_1182 (by decide) ?_
  refine J_iadd dL_law_1183 ?_
  refine J_scr (q := i + 2) dL_law_1184 (nI_add i 2) (by omega) (by omega) ?_
  refine J_aload_n dL_law_1185 rfl rfl ?_
  refine J_callSX (As := [_, _, _, _]) dL_law_1186 ml_L_196 cal_L_timesMet rfl sm_L_timesMet rfl (Nat.le_of_ble_eq_true rfl) ⟨by decide, by decide⟩ ⟨by omega, by omega⟩ (c_L_timesMet (a := (aMet (fS S P) (xx_scr G (i + 1)) (xx_scr G (i + 2)))) hst (c_X6_timesMet hst hX hG (xx_scr G (i + 1)) (xx_scr G (i + 2))) hX hO (fun A1 h => hO.f9 (m := 1) (fun z a c => h.2 z (by omega)) rfl) k_Met) (fun v1 A1 n1 _ hQ1 => ?_) (fun E A n _ hQ => absurd hQ.1 (fun z => nomatch z))
  obtain ⟨er1, en1, em1, Ak1, f1, ⟨hGk1, hsk1⟩, ho1, hO1, hf1⟩ := hQ1
  cases er1
  have fr1 : ∀ z, ¬ z = ho → (z < b + 16 ∨ b + 46 ≤ z) → A1 z = A z := fun z h1 h2 => (ho1 z h1).trans (hsk1 z h2)
  have hX1 := hX.f9 (m := 1) (fun z a c => fr1 z (by omega) (by omega)) rfl
  have hW1 := hW.fr (fun z a c => fr1 z (by omega) (by omega))
  have hG1 := hGk1.fr (fun z a c => ho1 z (by omega))
  have hM1 := hM.f9 (m := 48) (fun z a c => fr1 z (by omega) (by omega)) rfl
  have hN1 := hN.f9 (m := 9) (fun z a c => fr1 z (by omega) (by omega)) rfl
  have hS1 := hS.f9 (m := 14) (fun z a c => fr1 z (by omega) (by omega)) rfl
  have hSb1 := hS2.f9 (m := 14) (fun z a c => fr1 z (by omega) (by omega)) rfl
  refine J_istore (L' := [(5, _), (4, _), (3, _), (2, _), (1, _), (0, _)]) dL_law_1189 (by decide) rfl ?_
  refine J_aload_n dL_law_1191 rfl rfl ?_
  refine J_aload_n dL_law_1192 rfl rfl ?_
  refine J_iload dL_law_1193 rfl ?_
  refine J_iconst (v := 1) dL_law_1195 (by decide) ?_
  refine J_iadd dL_law_1196 ?_
  refine J_scr (q := i + 1) dL_law_1197 (nI_add i 1) (by omega) (by omega) ?_
  refine J_aload_n dL_law_1198 rfl rfl ?_
  refine J_iload dL_law_1199 rfl ?_
  refine J_iconst (v := 2) dL_law_1201 (by decide) ?_
  refine J_iadd dL_law_1202 ?_
  refine J_scr (q := i + 2) dL_law_1203 (nI_add i 2) (by omega) (by omega) ?_
  refine J_callVw (As := [_, _]) dL_law_1204 ml_L_199 cal_X9_timesMet im_X9_timesMet se_X9_timesMet (hM1.at 0 rfl) rfl rfl rfl (Nat.le_of_ble_eq_true rfl) ⟨by decide, by decide⟩ ⟨by omega, by omega⟩ (c_X9_timesMet hst hM1 hN1 hS1 hap hok (xx_scr G (i + 1)) (xx_scr G (i + 2))) (fun A2 hQ2 => ?_)
  obtain ⟨M2, ms2, h02, hM2, hs2⟩ := hQ2
  have hX2 := hX1.f9 (m := 1) (fun z a c => hs2 z (by unfold isM; omega)) rfl
  have hW2 := rdW.fr hW1 (fun z a c => hs2 z (by unfold isM; omega))
  have hG2 := hG1.fr (fun z a c => hs2 z (by unfold isM; omega))
  have hO2 := hO1.f9 (m := 1) (fun z a c => hs2 z (by unfold isM; omega)) rfl
  have hN2 := hN1.mf hs2 (m := 9) rfl hap.p
  have hS2 := hS1.mf hs2 (m := 14) rfl hap.s
  have hSb2 := hSb1.mf hs2 (m := 14) rfl hap2.s
  refine J_istore (L' := [(6, _), (5, _), (4, _), (3, _), (2, _), (1, _), (0, _)]) dL_law_1207 (by decide) rfl ?_
  refine J_aload_n dL_law_1209 rfl rfl ?_
  refine J_callVr (As := []) dL_law_1210 ml_L_117 cal_X9_thrown im_X9_thrown se_X9_thrown (hM2.at 0 rfl) rfl rfl rfl (Nat.le_of_ble_eq_true rfl) ⟨by decide, by decide⟩ ⟨by omega, by omega⟩ (c_X9_thrown hst hM2) ?_
  refine J_iload dL_law_1213 rfl ?_
  refine J_icmp_eq (tgt := 1220) dL_law_1215 rfl (fun h1215 => ?_) (fun h1215 => ?_)
  · refine J_iload dL_law_1220 rfl ?_
    refine J_if_ne (tgt := 1237) dL_law_1222 rfl (fun h1222 => ?_) (fun h1222 => ?_)
    · refine J_goto (tgt := 2062) dL_law_1237 rfl ?_
      refine xx_J.pick [2, 3, 4, 5, 6] rfl ?_
      exact cont _ _ _ _ ⟨T, len, eA, ru, cr, nw, _, r, S, P, bp, bn, _, ⟨D, R0, sg, hX2, hW2, hD8, hG2⟩, ⟨_, vL, nl, _, hM2, hN2, hS2, hSb2, (htp.of (ms2.1 2 (by decide)) (ms2.2 1 (by decide))), hT1, ((ms2.1 3 (by decide)).trans hM3)⟩, hO2, ⟨hok, hpl, hru, hrv, hrc, hz⟩, (hplc.up en1)⟩ (by omega) (by omega)
    · refine J_aload_n dL_law_1225 rfl rfl ?_
      refine J_iconst (v := 0) dL_law_1226 (by decide) ?_
      refine J_laldN 0 dL_law_1227 (hO2.at 0 rfl) rfl (by omega) (by decide) ?_
      refine J_iload dL_law_1228 rfl ?_
      refine J_i2l dL_law_1230 rfl ?_
      refine J_lcmp dL_law_1231 ?_
      refine J_if_eq (tgt := 1237) dL_law_1232 rfl (fun h1232 => ?_) (fun h1232 => ?_)
      · refine J_goto (tgt := 2062) dL_law_1237 rfl ?_
        refine xx_J.pick [2, 3, 4, 5, 6] rfl ?_
        exact cont _ _ _ _ ⟨T, len, eA, ru, cr, nw, _, r, S, P, bp, bn, _, ⟨D, R0, sg, hX2, hW2, hD8, hG2⟩, ⟨_, vL, nl, _, hM2, hN2, hS2, hSb2, (htp.of (ms2.1 2 (by decide)) (ms2.2 1 (by decide))), hT1, ((ms2.1 3 (by decide)).trans hM3)⟩, hO2, ⟨hok, hpl, hru, hrv, hrc, hz⟩, (hplc.up en1)⟩ (by omega) (by omega)
      · exact absurd (lg_eq.mpr (hf1 h1222)) h1232
  · exact absurd h02 h1215
set_option maxHeartbeats 2000000 in
theorem lc_24 (hst : l.stackTraces = false) (hbm : b + 46 ≤ bm) (hho : ho = bm + 48) (hi : i + 6 ≤ G.2.2.2 200) (hL : G.2.2.2 200 < 2147483648) (hI : lwI b bm ho n A) (hkj : k ≤ 600900 ∧ j ≤ 7290000) (cont : ∀ A' n' k' j', lwI b bm ho n' A' → k' ≤ k + 40 → j' ≤ j + 2300 → xx_J G l mL_law 2048 84000 601024 7293034 Post 2062 [(4, .int (nI i)), (3, .ref ho), (2, .ref bm), (1, .ref b), (0, .ref 160)] [] A' n' k' j') : xx_J G l mL_law 2048 84000 601024 7293034 Post 1240 [(4, .int (nI i)), (3, .ref ho), (2, .ref bm), (1, .ref b), (0, .ref 160)] [] A n k j := by
  obtain ⟨T, len, eA, ru, cr, nw, nb, r, S, P, bp, bn, f, ⟨D, R0, sg, hX, hW, hD8, hG⟩, ⟨M, vL, nl, S1, hM, hN, hS, hS2, htp, hT1, hM3⟩, hO, ⟨hok, hpl, hru, hrv, hrc, hz⟩, hplc⟩ := hI
  obtain ⟨hap, hap2, hna, hbp, hbn, hn1, hn2, hn3⟩ := id hplc
  refine J_aload_n dL_law_1240 rfl rfl ?_
  refine J_aload_n dL_law_1241 rfl rfl ?_
  refine J_iload dL_law_1242 rfl ?_
  refine J_iconst (v := 1) dL_law_1244 (by decide) ?_
  refine J_iadd dL_law_1245 ?_
  refine J_scr (q := i + 1) dL_law_1246 (nI_add i 1) (by omega) (by omega) ?_
  refine J_aload_n dL_law_1247 rfl rfl ?_
  refine J_callSX (As := [_, _, _]) dL_law_1248 ml_L_200 cal_L_redOf rfl sm_L_redOf rfl (Nat.le_of_ble_eq_true rfl) ⟨by decide, by decide⟩ ⟨by omega, by omega⟩ (c_L_redOf (a := (aRed (fS S P) (xx_scr G (i + 1)))) hst (c_X6_redOf hst hX hG (xx_scr G (i + 1))) hX hO (fun A1 h => hO.f9 (m := 1) (fun z a c => h.2 z (by omega)) rfl) k_Red) (fun v1 A1 n1 _ hQ1 => ?_) (fun E A n _ hQ => absurd hQ.1 (fun z => nomatch z))
  obtain ⟨er1, en1, em1, Ak1, f1, ⟨hGk1, hsk1⟩, ho1, hO1, hf1⟩ := hQ1
  cases er1
  have fr1 : ∀ z, ¬ z = ho → (z < b + 16 ∨ b + 46 ≤ z) → A1 z = A z := fun z h1 h2 => (ho1 z h1).trans (hsk1 z h2)
  have hX1 := hX.f9 (m := 1) (fun z a c => fr1 z (by omega) (by omega)) rfl
  have hW1 := hW.fr (fun z a c => fr1 z (by omega) (by omega))
  have hG1 := hGk1.fr (fun z a c => ho1 z (by omega))
  have hM1 := hM.f9 (m := 48) (fun z a c => fr1 z (by omega) (by omega)) rfl
  have hN1 := hN.f9 (m := 9) (fun z a c => fr1 z (by omega) (by omega)) rfl
  have hS1 := hS.f9 (m := 14) (fun z a c => fr1 z (by omega) (by omega)) rfl
  have hSb1 := hS2.f9 (m := 14) (fun z a c => fr1 z (by omega) (by omega)) rfl
  refine J_istore (L' := [(5, _), (4, _), (3, _), (2, _), (1, _), (0, _)]) dL_law_1251 (by decide) rfl ?_
  refine J_aload_n dL_law_1253 rfl rfl ?_
  refine J_aload_n dL_law_1254 rfl rfl ?_
  refine J_iload dL_law_1255 rfl ?_
  refine J_iconst (v := 1) dL_law_1257 (by decide) ?_
  refine J_iadd dL_law_1258 ?_
  refine J_scr (q := i + 1) dL_law_1259 (nI_add i 1) (by omega) (by omega) ?_
  refine J_callVw (As := [_]) dL_law_1260 ml_L_202 cal_X9_redOf im_X9_redOf se_X9_redOf (hM1.at 0 rfl) rfl rfl rfl (Nat.le_of_ble_eq_true rfl) ⟨by decide, by decide⟩ ⟨by omega, by omega⟩ (c_X9_redOf hst hM1 hN1 hS1 hap hok (xx_scr G (i + 1))) (fun A2 hQ2 => ?_)
  obtain ⟨M2, ms2, h02, hM2, hs2⟩ := hQ2
  have hX2 := hX1.f9 (m := 1) (fun z a c => hs2 z (by unfold isM; omega)) rfl
  have hW2 := rdW.fr hW1 (fun z a c => hs2 z (by unfold isM; omega))
  have hG2 := hG1.fr (fun z a c => hs2 z (by unfold isM; omega))
  have hO2 := hO1.f9 (m := 1) (fun z a c => hs2 z (by unfold isM; omega)) rfl
  have hN2 := hN1.mf hs2 (m := 9) rfl hap.p
  have hS2 := hS1.mf hs2 (m := 14) rfl hap.s
  have hSb2 := hSb1.mf hs2 (m := 14) rfl hap2.s
  refine J_istore (L' := [(6, _), (5, _), (4, _), (3, _), (2, _), (1, _), (0, _)]) dL_law_1263 (by decide) rfl ?_
  refine J_aload_n dL_law_1265 rfl rfl ?_
  refine J_callVr (As := []) dL_law_1266 ml_L_117 cal_X9_thrown im_X9_thrown se_X9_thrown (hM2.at 0 rfl) rfl rfl rfl (Nat.le_of_ble_eq_true rfl) ⟨by decide, by decide⟩ ⟨by omega, by omega⟩ (c_X9_thrown hst hM2) ?_
  refine J_iload dL_law_1269 rfl ?_
  refine J_icmp_eq (tgt := 1276) dL_law_1271 rfl (fun h1271 => ?_) (fun h1271 => ?_)
  · refine J_iload dL_law_1276 rfl ?_
    refine J_if_ne (tgt := 1293) dL_law_1278 rfl (fun h1278 => ?_) (fun h1278 => ?_)
    · refine J_goto (tgt := 2062) dL_law_1293 rfl ?_
      refine xx_J.pick [2, 3, 4, 5, 6] rfl ?_
      exact cont _ _ _ _ ⟨T, len, eA, ru, cr, nw, _, r, S, P, bp, bn, _, ⟨D, R0, sg, hX2, hW2, hD8, hG2⟩, ⟨_, vL, nl, _, hM2, hN2, hS2, hSb2, (htp.of (ms2.1 2 (by decide)) (ms2.2 1 (by decide))), hT1, ((ms2.1 3 (by decide)).trans hM3)⟩, hO2, ⟨hok, hpl, hru, hrv, hrc, hz⟩, (hplc.up en1)⟩ (by omega) (by omega)
    · refine J_aload_n dL_law_1281 rfl rfl ?_
      refine J_iconst (v := 0) dL_law_1282 (by decide) ?_
      refine J_laldN 0 dL_law_1283 (hO2.at 0 rfl) rfl (by omega) (by decide) ?_
      refine J_iload dL_law_1284 rfl ?_
      refine J_i2l dL_law_1286 rfl ?_
      refine J_lcmp dL_law_1287 ?_
      refine J_if_eq (tgt := 1293) dL_law_1288 rfl (fun h1288 => ?_) (fun h1288 => ?_)
      · refine J_goto (tgt := 2062) dL_law_1293 rfl ?_
        refine xx_J.pick [2, 3, 4, 5, 6] rfl ?_
        exact cont _ _ _ _ ⟨T, len, eA, ru, cr, nw, _, r, S, P, bp, bn, _, ⟨D, R0, sg, hX2, hW2, hD8, hG2⟩, ⟨_, vL, nl, _, hM2, hN2, hS2, hSb2, (htp.of (ms2.1 2 (by decide)) (ms2.2 1 (by decide))), hT1, ((ms2.1 3 (by decide)).trans hM3)⟩, hO2, ⟨hok, hpl, hru, hrv, hrc, hz⟩, (hplc.up en1)⟩ (by omega) (by omega)
      · exact absurd (lg_eq.mpr (hf1 h1278)) h1288
  · exact absurd h02 h1271
set_option maxHeartbeats 2000000 in
theorem lc_25 (hst : l.stackTraces = false) (hbm : b + 46 ≤ bm) (hho : ho = bm + 48) (hi : i + 6 ≤ G.2.2.2 200) (hL : G.2.2.2 200 < 2147483648) (hI : lwI b bm ho n A) (hkj : k ≤ 600900 ∧ j ≤ 7290000) (cont : ∀ A' n' k' j', lwI b bm ho n' A' → k' ≤ k + 40 → j' ≤ j + 2300 → xx_J G l mL_law 2048 84000 601024 7293034 Post 2062 [(4, .int (nI i)), (3, .ref ho), (2, .ref bm), (1, .ref b), (0, .ref 160)] [] A' n' k' j') : xx_J G l mL_law 2048 84000 601024 7293034 Post 1296 [(4, .int (nI i)), (3, .ref ho), (2, .ref bm), (1, .ref b), (0, .ref 160)] [] A n k j := by
  obtain ⟨T, len, eA, ru, cr, nw, nb, r, S, P, bp, bn, f, ⟨D, R0, sg, hX, hW, hD8, hG⟩, ⟨M, vL, nl, S1, hM, hN, hS, hS2, htp, hT1, hM3⟩, hO, ⟨hok, hpl, hru, hrv, hrc, hz⟩, hplc⟩ := hI
  obtain ⟨hap, hap2, hna, hbp, hbn, hn1, hn2, hn3⟩ := id hplc
  refine J_aload_n dL_law_1296 rfl rfl ?_
  refine J_aload_n dL_law_1297 rfl rfl ?_
  refine J_iload dL_law_1298 rfl ?_
  refine J_iconst (v := 1) dL_law_1300 (by decide) ?_
  refine J_iadd dL_law_1301 ?_
  refine J_scr (q := i + 1) dL_law_1302 (nI_add i 1) (by omega) (by omega) ?_
  refine J_aload_n dL_law_1303 rfl rfl ?_
  refine J_callSX (As := [_, _, _]) dL_law_1304 ml_L_203 cal_L_blueOf rfl sm_L_blueOf rfl (Nat.le_of_ble_eq_true rfl) ⟨by decide, by decide⟩ ⟨by omega, by omega⟩ (c_L_blueOf (a := (aBlu (fS S P) (xx_scr G (i + 1)))) hst (c_X6_blueOf hst hX hG (xx_scr G (i + 1))) hX hO (fun A1 h => hO.f9 (m := 1) (fun z a c => h.2 z (by omega)) rfl) k_Blu) (fun v1 A1 n1 _ hQ1 => ?_) (fun E A n _ hQ => absurd hQ.1 (fun z => nomatch z))
  obtain ⟨er1, en1, em1, Ak1, f1, ⟨hGk1, hsk1⟩, ho1, hO1, hf1⟩ := hQ1
  cases er1
  have fr1 : ∀ z, ¬ z = ho → (z < b + 16 ∨ b + 46 ≤ z) → A1 z = A z := fun z h1 h2 => (ho1 z h1).trans (hsk1 z h2)
  have hX1 := hX.f9 (m := 1) (fun z a c => fr1 z (by omega) (by omega)) rfl
  have hW1 := hW.fr (fun z a c => fr1 z (by omega) (by omega))
  have hG1 := hGk1.fr (fun z a c => ho1 z (by omega))
  have hM1 := hM.f9 (m := 48) (fun z a c => fr1 z (by omega) (by omega)) rfl
  have hN1 := hN.f9 (m := 9) (fun z a c => fr1 z (by omega) (by omega)) rfl
  have hS1 := hS.f9 (m := 14) (fun z a c => fr1 z (by omega) (by omega)) rfl
  have hSb1 := hS2.f9 (m := 14) (fun z a c => fr1 z (by omega) (by omega)) rfl
  refine J_istore (L' := [(5, _), (4, _), (3, _), (2, _), (1, _), (0, _)]) dL_law_1307 (by decide) rfl ?_
  refine J_aload_n dL_law_1309 rfl rfl ?_
  refine J_aload_n dL_law_1310 rfl rfl ?_
  refine J_iload dL_law_1311 rfl ?_
  refine J_iconst (v := 1) dL_law_1313 (by decide) ?_
  refine J_iadd dL_law_1314 ?_
  refine J_scr (q := i + 1) dL_law_1315 (nI_add i 1) (by omega) (by omega) ?_
  refine J_callVw (As := [_]) dL_law_1316 ml_L_205 cal_X9_blueOf im_X9_blueOf se_X9_blueOf (hM1.at 0 rfl) rfl rfl rfl (Nat.le_of_ble_eq_true rfl) ⟨by decide, by decide⟩ ⟨by omega, by omega⟩ (c_X9_blueOf hst hM1 hN1 hS1 hap hok (xx_scr G (i + 1))) (fun A2 hQ2 => ?_)
  obtain ⟨M2, ms2, h02, hM2, hs2⟩ := hQ2
  have hX2 := hX1.f9 (m := 1) (fun z a c => hs2 z (by unfold isM; omega)) rfl
  have hW2 := rdW.fr hW1 (fun z a c => hs2 z (by unfold isM; omega))
  have hG2 := hG1.fr (fun z a c => hs2 z (by unfold isM; omega))
  have hO2 := hO1.f9 (m := 1) (fun z a c => hs2 z (by unfold isM; omega)) rfl
  have hN2 := hN1.mf hs2 (m := 9) rfl hap.p
  have hS2 := hS1.mf hs2 (m := 14) rfl hap.s
  have hSb2 := hSb1.mf hs2 (m := 14) rfl hap2.s
  refine J_istore (L' := [(6, _), (5, _), (4, _), (3, _), (2, _), (1, _), (0, _)]) dL_law_1319 (by decide) rfl ?_
  refine J_aload_n dL_law_1321 rfl rfl ?_
  refine J_callVr (As := []) dL_law_1322 ml_L_117 cal_X9_thrown im_X9_thrown se_X9_thrown (hM2.at 0 rfl) rfl rfl rfl (Nat.le_of_ble_eq_true rfl) ⟨by decide, by decide⟩ ⟨by omega, by omega⟩ (c_X9_thrown hst hM2) ?_
  refine J_iload dL_law_1325 rfl ?_
  refine J_icmp_eq (tgt := 1332) dL_law_1327 rfl (fun h1327 => ?_) (fun h1327 => ?_)
  · refine J_iload dL_law_1332 rfl ?_
    refine J_if_ne (tgt := 1349) dL_law_1334 rfl (fun h1334 => ?_) (fun h1334 => ?_)
    · refine J_goto (tgt := 2062) dL_law_1349 rfl ?_
      refine xx_J.pick [2, 3, 4, 5, 6] rfl ?_
      exact cont _ _ _ _ ⟨T, len, eA, ru, cr, nw, _, r, S, P, bp, bn, _, ⟨D, R0, sg, hX2, hW2, hD8, hG2⟩, ⟨_, vL, nl, _, hM2, hN2, hS2, hSb2, (htp.of (ms2.1 2 (by decide)) (ms2.2 1 (by decide))), hT1, ((ms2.1 3 (by decide)).trans hM3)⟩, hO2, ⟨hok, hpl, hru, hrv, hrc, hz⟩, (hplc.up en1)⟩ (by omega) (by omega)
    · refine J_aload_n dL_law_1337 rfl rfl ?_
      refine J_iconst (v := 0) dL_law_1338 (by decide) ?_
      refine J_laldN 0 dL_law_1339 (hO2.at 0 rfl) rfl (by omega) (by decide) ?_
      refine J_iload dL_law_1340 rfl ?_
      refine J_i2l dL_law_1342 rfl ?_
      refine J_lcmp dL_law_1343 ?_
      refine J_if_eq (tgt := 1349) dL_law_1344 rfl (fun h1344 => ?_) (fun h1344 => ?_)
      · refine J_goto (tgt := 2062) dL_law_1349 rfl ?_
        refine xx_J.pick [2, 3, 4, 5, 6] rfl ?_
        exact cont _ _ _ _ ⟨T, len, eA, ru, cr, nw, _, r, S, P, bp, bn, _, ⟨D, R0, sg, hX2, hW2, hD8, hG2⟩, ⟨_, vL, nl, _, hM2, hN2, hS2, hSb2, (htp.of (ms2.1 2 (by decide)) (ms2.2 1 (by decide))), hT1, ((ms2.1 3 (by decide)).trans hM3)⟩, hO2, ⟨hok, hpl, hru, hrv, hrc, hz⟩, (hplc.up en1)⟩ (by omega) (by omega)
      · exact absurd (lg_eq.mpr (hf1 h1334)) h1344
  · exact absurd h02 h1327
set_option maxHeartbeats 2000000 in
theorem lc_26 (hst : l.stackTraces = false) (hbm : b + 46 ≤ bm) (hho : ho = bm + 48) (hi : i + 6 ≤ G.2.2.2 200) (hL : G.2.2.2 200 < 2147483648) (hI : lwI b bm ho n A) (hkj : k ≤ 600900 ∧ j ≤ 7290000) (cont : ∀ A' n' k' j', lwI b bm ho n' A' → k' ≤ k + 40 → j' ≤ j + 2300 → xx_J G l mL_law 2048 84000 601024 7293034 Post 2062 [(4, .int (nI i)), (3, .ref ho), (2, .ref bm), (1, .ref b), (0, .ref 160)] [] A' n' k' j') : xx_J G l mL_law 2048 84000 601024 7293034 Post 1352 [(4, .int (nI i)), (3, .ref ho), (2, .ref bm), (1, .ref b), (0, .ref 160)] [] A n k j := by
  obtain ⟨T, len, eA, ru, cr, nw, nb, r, S, P, bp, bn, f, ⟨D, R0, sg, hX, hW, hD8, hG⟩, ⟨M, vL, nl, S1, hM, hN, hS, hS2, htp, hT1, hM3⟩, hO, ⟨hok, hpl, hru, hrv, hrc, hz⟩, hplc⟩ := hI
  obtain ⟨hap, hap2, hna, hbp, hbn, hn1, hn2, hn3⟩ := id hplc
  refine J_aload_n dL_law_1352 rfl rfl ?_
  refine J_aload_n dL_law_1353 rfl rfl ?_
  refine J_iload dL_law_1354 rfl ?_
  refine J_iconst (v := 1) dL_law_1356 (by decide) ?_
  refine J_iadd dL_law_1357 ?_
  refine J_scr (q := i + 1) dL_law_1358 (nI_add i 1) (by omega) (by omega) ?_
  refine J_aload_n dL_law_1359 rfl rfl ?_
  refine J_callSX (As := [_, _, _]) dL_law_1360 ml_L_206 cal_L_outcomeOf rfl sm_L_outcomeOf rfl (Nat.le_of_ble_eq_true rfl) ⟨by decide, by decide⟩ ⟨by omega, by omega⟩ (c_L_outcomeOf (a := (aOut (fS S P) (xx_scr G (i + 1)))) hst (c_X6_outcomeOf hst hX hG (xx_scr G (i + 1))) hX hO (fun A1 h => hO.f9 (m := 1) (fun z a c => h.2 z (by omega)) rfl) k_Out) (fun v1 A1 n1 _ hQ1 => ?_) (fun E A n _ hQ => absurd hQ.1 (fun z => nomatch z))
  obtain ⟨er1, en1, em1, Ak1, f1, ⟨hGk1, hsk1⟩, ho1, hO1, hf1⟩ := hQ1
  cases er1
  have fr1 : ∀ z, ¬ z = ho → (z < b + 16 ∨ b + 46 ≤ z) → A1 z = A z := fun z h1 h2 => (ho1 z h1).trans (hsk1 z h2)
  have hX1 := hX.f9 (m := 1) (fun z a c => fr1 z (by omega) (by omega)) rfl
  have hW1 := hW.fr (fun z a c => fr1 z (by omega) (by omega))
  have hG1 := hGk1.fr (fun z a c => ho1 z (by omega))
  have hM1 := hM.f9 (m := 48) (fun z a c => fr1 z (by omega) (by omega)) rfl
  have hN1 := hN.f9 (m := 9) (fun z a c => fr1 z (by omega) (by omega)) rfl
  have hS1 := hS.f9 (m := 14) (fun z a c => fr1 z (by omega) (by omega)) rfl
  have hSb1 := hS2.f9 (m := 14) (fun z a c => fr1 z (by omega) (by omega)) rfl
  refine J_istore (L' := [(5, _), (4, _), (3, _), (2, _), (1, _), (0, _)]) dL_law_1363 (by decide) rfl ?_
  refine J_aload_n dL_law_1365 rfl rfl ?_
  refine J_aload_n dL_law_1366 rfl rfl ?_
  refine J_iload dL_law_1367 rfl ?_
  refine J_iconst (v := 1) dL_law_1369 (by decide) ?_
  refine J_iadd dL_law_1370 ?_
  refine J_scr (q := i + 1) dL_law_1371 (nI_add i 1) (by omega) (by omega) ?_
  refine J_callVw (As := [_]) dL_law_1372 ml_L_208 cal_X9_outcomeOf im_X9_outcomeOf se_X9_outcomeOf (hM1.at 0 rfl) rfl rfl rfl (Nat.le_of_ble_eq_true rfl) ⟨by decide, by decide⟩ ⟨by omega, by omega⟩ (c_X9_outcomeOf hst hM1 hN1 hS1 hap hok (xx_scr G (i + 1))) (fun A2 hQ2 => ?_)
  obtain ⟨M2, ms2, h02, hM2, hs2⟩ := hQ2
  have hX2 := hX1.f9 (m := 1) (fun z a c => hs2 z (by unfold isM; omega)) rfl
  have hW2 := rdW.fr hW1 (fun z a c => hs2 z (by unfold isM; omega))
  have hG2 := hG1.fr (fun z a c => hs2 z (by unfold isM; omega))
  have hO2 := hO1.f9 (m := 1) (fun z a c => hs2 z (by unfold isM; omega)) rfl
  have hN2 := hN1.mf hs2 (m := 9) rfl hap.p
  have hS2 := hS1.mf hs2 (m := 14) rfl hap.s
  have hSb2 := hSb1.mf hs2 (m := 14) rfl hap2.s
  refine J_istore (L' := [(6, _), (5, _), (4, _), (3, _), (2, _), (1, _), (0, _)]) dL_law_1375 (by decide) rfl ?_
  refine J_aload_n dL_law_1377 rfl rfl ?_
  refine J_callVr (As := []) dL_law_1378 ml_L_117 cal_X9_thrown im_X9_thrown se_X9_thrown (hM2.at 0 rfl) rfl rfl rfl (Nat.le_of_ble_eq_true rfl) ⟨by decide, by decide⟩ ⟨by omega, by omega⟩ (c_X9_thrown hst hM2) ?_
  refine J_iload dL_law_1381 rfl ?_
  refine J_icmp_eq (tgt := 1388) dL_law_1383 rfl (fun h1383 => ?_) (fun h1383 => ?_)
  · refine J_iload dL_law_1388 rfl ?_
    refine J_if_ne (tgt := 1405) dL_law_1390 rfl (fun h1390 => ?_) (fun h1390 => ?_)
    · refine J_goto (tgt := 2062) dL_law_1405 rfl ?_
      refine xx_J.pick [2, 3, 4, 5, 6] rfl ?_
      exact cont _ _ _ _ ⟨T, len, eA, ru, cr, nw, _, r, S, P, bp, bn, _, ⟨D, R0, sg, hX2, hW2, hD8, hG2⟩, ⟨_, vL, nl, _, hM2, hN2, hS2, hSb2, (htp.of (ms2.1 2 (by decide)) (ms2.2 1 (by decide))), hT1, ((ms2.1 3 (by decide)).trans hM3)⟩, hO2, ⟨hok, hpl, hru, hrv, hrc, hz⟩, (hplc.up en1)⟩ (by omega) (by omega)
    · refine J_aload_n dL_law_1393 rfl rfl ?_
      refine J_iconst (v := 0) dL_law_1394 (by decide) ?_
      refine J_laldN 0 dL_law_1395 (hO2.at 0 rfl) rfl (by omega) (by decide) ?_
      refine J_iload dL_law_1396 rfl ?_
      refine J_i2l dL_law_1398 rfl ?_
      refine J_lcmp dL_law_1399 ?_
      refine J_if_eq (tgt := 1405) dL_law_1400 rfl (fun h1400 => ?_) (fun h1400 => ?_)
      · refine J_goto (tgt := 2062) dL_law_1405 rfl ?_
        refine xx_J.pick [2, 3, 4, 5, 6] rfl ?_
        exact cont _ _ _ _ ⟨T, len, eA, ru, cr, nw, _, r, S, P, bp, bn, _, ⟨D, R0, sg, hX2, hW2, hD8, hG2⟩, ⟨_, vL, nl, _, hM2, hN2, hS2, hSb2, (htp.of (ms2.1 2 (by decide)) (ms2.2 1 (by decide))), hT1, ((ms2.1 3 (by decide)).trans hM3)⟩, hO2, ⟨hok, hpl, hru, hrv, hrc, hz⟩, (hplc.up en1)⟩ (by omega) (by omega)
      · exact absurd (lg_eq.mpr (hf1 h1390)) h1400
  · exact absurd h02 h1383
set_option maxHeartbeats 2000000 in
theorem lc_27 (hst : l.stackTraces = false) (hbm : b + 46 ≤ bm) (hho : ho = bm + 48) (hi : i + 6 ≤ G.2.2.2 200) (hL : G.2.2.2 200 < 2147483648) (hI : lwI b bm ho n A) (hkj : k ≤ 600900 ∧ j ≤ 7290000) (cont : ∀ A' n' k' j', lwI b bm ho n' A' → k' ≤ k + 40 → j' ≤ j + 2300 → xx_J G l mL_law 2048 84000 601024 7293034 Post 2062 [(4, .int (nI i)), (3, .ref ho), (2, .ref bm), (1, .ref b), (0, .ref 160)] [] A' n' k' j') : xx_J G l mL_law 2048 84000 601024 7293034 Post 1408 [(4, .int (nI i)), (3, .ref ho), (2, .ref bm), (1, .ref b), (0, .ref 160)] [] A n k j := by
  obtain ⟨T, len, eA, ru, cr, nw, nb, r, S, P, bp, bn, f, ⟨D, R0, sg, hX, hW, hD8, hG⟩, ⟨M, vL, nl, S1, hM, hN, hS, hS2, htp, hT1, hM3⟩, hO, ⟨hok, hpl, hru, hrv, hrc, hz⟩, hplc⟩ := hI
  obtain ⟨hap, hap2, hna, hbp, hbn, hn1, hn2, hn3⟩ := id hplc
  refine J_aload_n dL_law_1408 rfl rfl ?_
  refine J_aload_n dL_law_1409 rfl rfl ?_
  refine J_iload dL_law_1410 rfl ?_
  refine J_iconst (v := 1) dL_law_1412 (by decide) ?_
  refine J_iadd dL_law_1413 ?_
  refine J_scr (q := i + 1) dL_law_1414 (nI_add i 1) (by omega) (by omega) ?_
  refine J_aload_n dL_law_1415 rfl rfl ?_
  refine J_callSX (As := [_, _, _]) dL_law_1416 ml_L_209 cal_L_ruledOutcome rfl sm_L_ruledOutcome rfl (Nat.le_of_ble_eq_true rfl) ⟨by decide, by decide⟩ ⟨by omega, by omega⟩ (c_L_ruledOutcome (a := (aRul ru (fS S P) (xx_scr G (i + 1)))) hst (c_X6_ruledOutcome hst hX hG (xx_scr G (i + 1)) hrc) hX hO (fun A1 h => hO.f9 (m := 1) (fun z a c => h.2 z (by omega)) rfl) k_Rul) (fun v1 A1 n1 _ hQ1 => ?_) (fun E A n _ hQ => absurd hQ.1 (fun z => nomatch z))
  obtain ⟨er1, en1, em1, Ak1, f1, ⟨hGk1, hsk1⟩, ho1, hO1, hf1⟩ := hQ1
  cases er1
  have fr1 : ∀ z, ¬ z = ho → (z < b + 16 ∨ b + 46 ≤ z) → A1 z = A z := fun z h1 h2 => (ho1 z h1).trans (hsk1 z h2)
  have hX1 := hX.f9 (m := 1) (fun z a c => fr1 z (by omega) (by omega)) rfl
  have hW1 := hW.fr (fun z a c => fr1 z (by omega) (by omega))
  have hG1 := hGk1.fr (fun z a c => ho1 z (by omega))
  have hM1 := hM.f9 (m := 48) (fun z a c => fr1 z (by omega) (by omega)) rfl
  have hN1 := hN.f9 (m := 9) (fun z a c => fr1 z (by omega) (by omega)) rfl
  have hS1 := hS.f9 (m := 14) (fun z a c => fr1 z (by omega) (by omega)) rfl
  have hSb1 := hS2.f9 (m := 14) (fun z a c => fr1 z (by omega) (by omega)) rfl
  refine J_istore (L' := [(5, _), (4, _), (3, _), (2, _), (1, _), (0, _)]) dL_law_1419 (by decide) rfl ?_
  refine J_aload_n dL_law_1421 rfl rfl ?_
  refine J_aload_n dL_law_1422 rfl rfl ?_
  refine J_iload dL_law_1423 rfl ?_
  refine J_iconst (v := 1) dL_law_1425 (by decide) ?_
  refine J_iadd dL_law_1426 ?_
  refine J_scr (q := i + 1) dL_law_1427 (nI_add i 1) (by omega) (by omega) ?_
  refine J_callVw (As := [_]) dL_law_1428 ml_L_211 cal_X9_ruledOutcome im_X9_ruledOutcome se_X9_ruledOutcome (hM1.at 0 rfl) rfl rfl rfl (Nat.le_of_ble_eq_true rfl) ⟨by decide, by decide⟩ ⟨by omega, by omega⟩ (c_X9_ruledOutcome hst hM1 hN1 hS1 hap hok (xx_scr G (i + 1)) hpl hru) (fun A2 hQ2 => ?_)
  obtain ⟨M2, ms2, h02, hM2, hs2⟩ := hQ2
  have hX2 := hX1.f9 (m := 1) (fun z a c => hs2 z (by unfold isM; omega)) rfl
  have hW2 := rdW.fr hW1 (fun z a c => hs2 z (by unfold isM; omega))
  have hG2 := hG1.fr (fun z a c => hs2 z (by unfold isM; omega))
  have hO2 := hO1.f9 (m := 1) (fun z a c => hs2 z (by unfold isM; omega)) rfl
  have hN2 := hN1.mf hs2 (m := 9) rfl hap.p
  have hS2 := hS1.mf hs2 (m := 14) rfl hap.s
  have hSb2 := hSb1.mf hs2 (m := 14) rfl hap2.s
  refine J_istore (L' := [(6, _), (5, _), (4, _), (3, _), (2, _), (1, _), (0, _)]) dL_law_1431 (by decide) rfl ?_
  refine J_aload_n dL_law_1433 rfl rfl ?_
  refine J_callVr (As := []) dL_law_1434 ml_L_117 cal_X9_thrown im_X9_thrown se_X9_thrown (hM2.at 0 rfl) rfl rfl rfl (Nat.le_of_ble_eq_true rfl) ⟨by decide, by decide⟩ ⟨by omega, by omega⟩ (c_X9_thrown hst hM2) ?_
  refine J_iload dL_law_1437 rfl ?_
  refine J_icmp_eq (tgt := 1444) dL_law_1439 rfl (fun h1439 => ?_) (fun h1439 => ?_)
  · refine J_iload dL_law_1444 rfl ?_
    refine J_if_ne (tgt := 1461) dL_law_1446 rfl (fun h1446 => ?_) (fun h1446 => ?_)
    · refine J_goto (tgt := 2062) dL_law_1461 rfl ?_
      refine xx_J.pick [2, 3, 4, 5, 6] rfl ?_
      exact cont _ _ _ _ ⟨T, len, eA, ru, cr, nw, _, r, S, P, bp, bn, _, ⟨D, R0, sg, hX2, hW2, hD8, hG2⟩, ⟨_, vL, nl, _, hM2, hN2, hS2, hSb2, (htp.of (ms2.1 2 (by decide)) (ms2.2 1 (by decide))), hT1, ((ms2.1 3 (by decide)).trans hM3)⟩, hO2, ⟨hok, hpl, hru, hrv, hrc, hz⟩, (hplc.up en1)⟩ (by omega) (by omega)
    · refine J_aload_n dL_law_1449 rfl rfl ?_
      refine J_iconst (v := 0) dL_law_1450 (by decide) ?_
      refine J_laldN 0 dL_law_1451 (hO2.at 0 rfl) rfl (by omega) (by decide) ?_
      refine J_iload dL_law_1452 rfl ?_
      refine J_i2l dL_law_1454 rfl ?_
      refine J_lcmp dL_law_1455 ?_
      refine J_if_eq (tgt := 1461) dL_law_1456 rfl (fun h1456 => ?_) (fun h1456 => ?_)
      · refine J_goto (tgt := 2062) dL_law_1461 rfl ?_
        refine xx_J.pick [2, 3, 4, 5, 6] rfl ?_
        exact cont _ _ _ _ ⟨T, len, eA, ru, cr, nw, _, r, S, P, bp, bn, _, ⟨D, R0, sg, hX2, hW2, hD8, hG2⟩, ⟨_, vL, nl, _, hM2, hN2, hS2, hSb2, (htp.of (ms2.1 2 (by decide)) (ms2.2 1 (by decide))), hT1, ((ms2.1 3 (by decide)).trans hM3)⟩, hO2, ⟨hok, hpl, hru, hrv, hrc, hz⟩, (hplc.up en1)⟩ (by omega) (by omega)
      · exact absurd (lg_eq.mpr (hf1 h1446)) h1456
  · exact absurd h02 h1439
set_option maxHeartbeats 2000000 in
theorem lc_28 (hst : l.stackTraces = false) (hbm : b + 46 ≤ bm) (hho : ho = bm + 48) (hi : i + 6 ≤ G.2.2.2 200) (hL : G.2.2.2 200 < 2147483648) (hI : lwI b bm ho n A) (hkj : k ≤ 600900 ∧ j ≤ 7290000) (cont : ∀ A' n' k' j', lwI b bm ho n' A' → k' ≤ k + 40 → j' ≤ j + 2300 → xx_J G l mL_law 2048 84000 601024 7293034 Post 2062 [(4, .int (nI i)), (3, .ref ho), (2, .ref bm), (1, .ref b), (0, .ref 160)] [] A' n' k' j') : xx_J G l mL_law 2048 84000 601024 7293034 Post 1464 [(4, .int (nI i)), (3, .ref ho), (2, .ref bm), (1, .ref b), (0, .ref 160)] [] A n k j := by
  obtain ⟨T, len, eA, ru, cr, nw, nb, r, S, P, bp, bn, f, ⟨D, R0, sg, hX, hW, hD8, hG⟩, ⟨M, vL, nl, S1, hM, hN, hS, hS2, htp, hT1, hM3⟩, hO, ⟨hok, hpl, hru, hrv, hrc, hz⟩, hplc⟩ := hI
  obtain ⟨hap, hap2, hna, hbp, hbn, hn1, hn2, hn3⟩ := id hplc
  refine J_aload_n dL_law_1464 rfl rfl ?_
  refine J_aload_n dL_law_1465 rfl rfl ?_
  refine J_iload dL_law_1466 rfl ?_
  refine J_iconst (v := 1) dL_law_1468 (by decide) ?_
  refine J_iadd dL_law_1469 ?_
  refine J_scr (q := i + 1) dL_law_1470 (nI_add i 1) (by omega) (by omega) ?_
  refine J_aload_n dL_law_1471 rfl rfl ?_
  refine J_callSX (As := [_, _, _]) dL_law_1472 ml_L_212 cal_L_opponentOf rfl sm_L_opponentOf rfl (Nat.le_of_ble_eq_true rfl) ⟨by decide, by decide⟩ ⟨by omega, by omega⟩ (c_L_opponentOf (a := (aOpp nb (fS S P) (xx_scr G (i + 1)))) hst (c_X6_opponentOf hst hX hG (xx_scr G (i + 1))) hX hO (fun A1 h => hO.f9 (m := 1) (fun z a c => h.2 z (by omega)) rfl) k_Opp) (fun v1 A1 n1 _ hQ1 => ?_) (fun E A n _ hQ => absurd hQ.1 (fun z => nomatch z))
  obtain ⟨er1, en1, em1, Ak1, f1, ⟨hGk1, hsk1⟩, ho1, hO1, hf1⟩ := hQ1
  cases er1
  have fr1 : ∀ z, ¬ z = ho → (z < b + 16 ∨ b + 46 ≤ z) → A1 z = A z := fun z h1 h2 => (ho1 z h1).trans (hsk1 z h2)
  have hX1 := hX.f9 (m := 1) (fun z a c => fr1 z (by omega) (by omega)) rfl
  have hW1 := hW.fr (fun z a c => fr1 z (by omega) (by omega))
  have hG1 := hGk1.fr (fun z a c => ho1 z (by omega))
  have hM1 := hM.f9 (m := 48) (fun z a c => fr1 z (by omega) (by omega)) rfl
  have hN1 := hN.f9 (m := 9) (fun z a c => fr1 z (by omega) (by omega)) rfl
  have hS1 := hS.f9 (m := 14) (fun z a c => fr1 z (by omega) (by omega)) rfl
  have hSb1 := hS2.f9 (m := 14) (fun z a c => fr1 z (by omega) (by omega)) rfl
  refine J_istore (L' := [(5, _), (4, _), (3, _), (2, _), (1, _), (0, _)]) dL_law_1475 (by decide) rfl ?_
  refine J_aload_n dL_law_1477 rfl rfl ?_
  refine J_aload_n dL_law_1478 rfl rfl ?_
  refine J_iload dL_law_1479 rfl ?_
  refine J_iconst (v := 1) dL_law_1481 (by decide) ?_
  refine J_iadd dL_law_1482 ?_
  refine J_scr (q := i + 1) dL_law_1483 (nI_add i 1) (by omega) (by omega) ?_
  refine J_callVw (As := [_]) dL_law_1484 ml_L_214 cal_X9_opponentOf im_X9_opponentOf se_X9_opponentOf (hM1.at 0 rfl) rfl rfl rfl (Nat.le_of_ble_eq_true rfl) ⟨by decide, by decide⟩ ⟨by omega, by omega⟩ (c_X9_opponentOf hst hM1 hN1 hS1 hap hok (xx_scr G (i + 1))) (fun A2 hQ2 => ?_)
  obtain ⟨M2, ms2, h02, hM2, hs2⟩ := hQ2
  have hX2 := hX1.f9 (m := 1) (fun z a c => hs2 z (by unfold isM; omega)) rfl
  have hW2 := rdW.fr hW1 (fun z a c => hs2 z (by unfold isM; omega))
  have hG2 := hG1.fr (fun z a c => hs2 z (by unfold isM; omega))
  have hO2 := hO1.f9 (m := 1) (fun z a c => hs2 z (by unfold isM; omega)) rfl
  have hN2 := hN1.mf hs2 (m := 9) rfl hap.p
  have hS2 := hS1.mf hs2 (m := 14) rfl hap.s
  have hSb2 := hSb1.mf hs2 (m := 14) rfl hap2.s
  refine J_istore (L' := [(6, _), (5, _), (4, _), (3, _), (2, _), (1, _), (0, _)]) dL_law_1487 (by decide) rfl ?_
  refine J_aload_n dL_law_1489 rfl rfl ?_
  refine J_callVr (As := []) dL_law_1490 ml_L_117 cal_X9_thrown im_X9_thrown se_X9_thrown (hM2.at 0 rfl) rfl rfl rfl (Nat.le_of_ble_eq_true rfl) ⟨by decide, by decide⟩ ⟨by omega, by omega⟩ (c_X9_thrown hst hM2) ?_
  refine J_iload dL_law_1493 rfl ?_
  refine J_icmp_eq (tgt := 1500) dL_law_1495 rfl (fun h1495 => ?_) (fun h1495 => ?_)
  · refine J_iload dL_law_1500 rfl ?_
    refine J_if_ne (tgt := 1517) dL_law_1502 rfl (fun h1502 => ?_) (fun h1502 => ?_)
    · refine J_goto (tgt := 2062) dL_law_1517 rfl ?_
      refine xx_J.pick [2, 3, 4, 5, 6] rfl ?_
      exact cont _ _ _ _ ⟨T, len, eA, ru, cr, nw, _, r, S, P, bp, bn, _, ⟨D, R0, sg, hX2, hW2, hD8, hG2⟩, ⟨_, vL, nl, _, hM2, hN2, hS2, hSb2, (htp.of (ms2.1 2 (by decide)) (ms2.2 1 (by decide))), hT1, ((ms2.1 3 (by decide)).trans hM3)⟩, hO2, ⟨hok, hpl, hru, hrv, hrc, hz⟩, (hplc.up en1)⟩ (by omega) (by omega)
    · refine J_aload_n dL_law_1505 rfl rfl ?_
      refine J_iconst (v := 0) dL_law_1506 (by decide) ?_
      refine J_laldN 0 dL_law_1507 (hO2.at 0 rfl) rfl (by omega) (by decide) ?_
      refine J_iload dL_law_1508 rfl ?_
      refine J_i2l dL_law_1510 rfl ?_
      refine J_lcmp dL_law_1511 ?_
      refine J_if_eq (tgt := 1517) dL_law_1512 rfl (fun h1512 => ?_) (fun h1512 => ?_)
      · refine J_goto (tgt := 2062) dL_law_1517 rfl ?_
        refine xx_J.pick [2, 3, 4, 5, 6] rfl ?_
        exact cont _ _ _ _ ⟨T, len, eA, ru, cr, nw, _, r, S, P, bp, bn, _, ⟨D, R0, sg, hX2, hW2, hD8, hG2⟩, ⟨_, vL, nl, _, hM2, hN2, hS2, hSb2, (htp.of (ms2.1 2 (by decide)) (ms2.2 1 (by decide))), hT1, ((ms2.1 3 (by decide)).trans hM3)⟩, hO2, ⟨hok, hpl, hru, hrv, hrc, hz⟩, (hplc.up en1)⟩ (by omega) (by omega)
      · exact absurd (lg_eq.mpr (hf1 h1502)) h1512
  · exact absurd h02 h1495
set_option maxHeartbeats 2000000 in
theorem lc_29 (hst : l.stackTraces = false) (hbm : b + 46 ≤ bm) (hho : ho = bm + 48) (hi : i + 6 ≤ G.2.2.2 200) (hL : G.2.2.2 200 < 2147483648) (hI : lwI b bm ho n A) (hkj : k ≤ 600900 ∧ j ≤ 7290000) (cont : ∀ A' n' k' j', lwI b bm ho n' A' → k' ≤ k + 40 → j' ≤ j + 2300 → xx_J G l mL_law 2048 84000 601024 7293034 Post 2062 [(4, .int (nI i)), (3, .ref ho), (2, .ref bm), (1, .ref b), (0, .ref 160)] [] A' n' k' j') : xx_J G l mL_law 2048 84000 601024 7293034 Post 1520 [(4, .int (nI i)), (3, .ref ho), (2, .ref bm), (1, .ref b), (0, .ref 160)] [] A n k j := by
  obtain ⟨T, len, eA, ru, cr, nw, nb, r, S, P, bp, bn, f, ⟨D, R0, sg, hX, hW, hD8, hG⟩, ⟨M, vL, nl, S1, hM, hN, hS, hS2, htp, hT1, hM3⟩, hO, ⟨hok, hpl, hru, hrv, hrc, hz⟩, hplc⟩ := hI
  obtain ⟨hap, hap2, hna, hbp, hbn, hn1, hn2, hn3⟩ := id hplc
  refine J_aload_n dL_law_1520 rfl rfl ?_
  refine J_aload_n dL_law_1521 rfl rfl ?_
  refine J_callSX (As := [_, _]) dL_law_1522 ml_L_215 cal_L_restingOne rfl sm_L_restingOne rfl (Nat.le_of_ble_eq_true rfl) ⟨by decide, by decide⟩ ⟨by omega, by omega⟩ (c_L_restingOne (a := (aRst (fS S P))) hst (c_X6_restingOne hst hX hG ) hX hO (fun A1 h => hO.f9 (m := 1) (fun z a c => h.2 z (by omega)) rfl) k_Rst) (fun v1 A1 n1 _ hQ1 => ?_) (fun E A n _ hQ => absurd hQ.1 (fun z => nomatch z))
  obtain ⟨er1, en1, em1, Ak1, f1, ⟨hGk1, hsk1⟩, ho1, hO1, hf1⟩ := hQ1
  cases er1
  have fr1 : ∀ z, ¬ z = ho → (z < b + 16 ∨ b + 46 ≤ z) → A1 z = A z := fun z h1 h2 => (ho1 z h1).trans (hsk1 z h2)
  have hX1 := hX.f9 (m := 1) (fun z a c => fr1 z (by omega) (by omega)) rfl
  have hW1 := hW.fr (fun z a c => fr1 z (by omega) (by omega))
  have hG1 := hGk1.fr (fun z a c => ho1 z (by omega))
  have hM1 := hM.f9 (m := 48) (fun z a c => fr1 z (by omega) (by omega)) rfl
  have hN1 := hN.f9 (m := 9) (fun z a c => fr1 z (by omega) (by omega)) rfl
  have hS1 := hS.f9 (m := 14) (fun z a c => fr1 z (by omega) (by omega)) rfl
  have hSb1 := hS2.f9 (m := 14) (fun z a c => fr1 z (by omega) (by omega)) rfl
  refine J_istore (L' := [(5, _), (4, _), (3, _), (2, _), (1, _), (0, _)]) dL_law_1525 (by decide) rfl ?_
  refine J_aload_n dL_law_1527 rfl rfl ?_
  refine J_callVw (As := []) dL_law_1528 ml_L_218 cal_X9_restingOne im_X9_restingOne se_X9_restingOne (hM1.at 0 rfl) rfl rfl rfl (Nat.le_of_ble_eq_true rfl) ⟨by decide, by decide⟩ ⟨by omega, by omega⟩ (c_X9_restingOne hst hM1 hN1 hS1 hap hok ) (fun A2 hQ2 => ?_)
  obtain ⟨M2, ms2, h02, hM2, hs2⟩ := hQ2
  have hX2 := hX1.f9 (m := 1) (fun z a c => hs2 z (by unfold isM; omega)) rfl
  have hW2 := rdW.fr hW1 (fun z a c => hs2 z (by unfold isM; omega))
  have hG2 := hG1.fr (fun z a c => hs2 z (by unfold isM; omega))
  have hO2 := hO1.f9 (m := 1) (fun z a c => hs2 z (by unfold isM; omega)) rfl
  have hN2 := hN1.mf hs2 (m := 9) rfl hap.p
  have hS2 := hS1.mf hs2 (m := 14) rfl hap.s
  have hSb2 := hSb1.mf hs2 (m := 14) rfl hap2.s
  refine J_istore (L' := [(6, _), (5, _), (4, _), (3, _), (2, _), (1, _), (0, _)]) dL_law_1531 (by decide) rfl ?_
  refine J_aload_n dL_law_1533 rfl rfl ?_
  refine J_callVr (As := []) dL_law_1534 ml_L_117 cal_X9_thrown im_X9_thrown se_X9_thrown (hM2.at 0 rfl) rfl rfl rfl (Nat.le_of_ble_eq_true rfl) ⟨by decide, by decide⟩ ⟨by omega, by omega⟩ (c_X9_thrown hst hM2) ?_
  refine J_iload dL_law_1537 rfl ?_
  refine J_icmp_eq (tgt := 1544) dL_law_1539 rfl (fun h1539 => ?_) (fun h1539 => ?_)
  · refine J_iload dL_law_1544 rfl ?_
    refine J_if_ne (tgt := 1561) dL_law_1546 rfl (fun h1546 => ?_) (fun h1546 => ?_)
    · refine J_goto (tgt := 2062) dL_law_1561 rfl ?_
      refine xx_J.pick [2, 3, 4, 5, 6] rfl ?_
      exact cont _ _ _ _ ⟨T, len, eA, ru, cr, nw, _, r, S, P, bp, bn, _, ⟨D, R0, sg, hX2, hW2, hD8, hG2⟩, ⟨_, vL, nl, _, hM2, hN2, hS2, hSb2, (htp.of (ms2.1 2 (by decide)) (ms2.2 1 (by decide))), hT1, ((ms2.1 3 (by decide)).trans hM3)⟩, hO2, ⟨hok, hpl, hru, hrv, hrc, hz⟩, (hplc.up en1)⟩ (by omega) (by omega)
    · refine J_aload_n dL_law_1549 rfl rfl ?_
      refine J_iconst (v := 0) dL_law_1550 (by decide) ?_
      refine J_laldN 0 dL_law_1551 (hO2.at 0 rfl) rfl (by omega) (by decide) ?_
      refine J_iload dL_law_1552 rfl ?_
      refine J_i2l dL_law_1554 rfl ?_
      refine J_lcmp dL_law_1555 ?_
      refine J_if_eq (tgt := 1561) dL_law_1556 rfl (fun h1556 => ?_) (fun h1556 => ?_)
      · refine J_goto (tgt := 2062) dL_law_1561 rfl ?_
        refine xx_J.pick [2, 3, 4, 5, 6] rfl ?_
        exact cont _ _ _ _ ⟨T, len, eA, ru, cr, nw, _, r, S, P, bp, bn, _, ⟨D, R0, sg, hX2, hW2, hD8, hG2⟩, ⟨_, vL, nl, _, hM2, hN2, hS2, hSb2, (htp.of (ms2.1 2 (by decide)) (ms2.2 1 (by decide))), hT1, ((ms2.1 3 (by decide)).trans hM3)⟩, hO2, ⟨hok, hpl, hru, hrv, hrc, hz⟩, (hplc.up en1)⟩ (by omega) (by omega)
      · exact absurd (lg_eq.mpr (hf1 h1546)) h1556
  · exact absurd h02 h1539
end XLCb
