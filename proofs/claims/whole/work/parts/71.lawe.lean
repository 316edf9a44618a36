/-! THE LAW: its cases -/
section XLCe
variable {G : xx_G} {l : Launch} {A : xx_H} {n b bm ho i k j : Nat} {Post : xx_Q}
set_option maxHeartbeats 2000000 in
theorem lc_3 (hst : l.stackTraces = false) (hbm : b + 46 ≤ bm) (hho : ho = bm + 48) (hi : i + 6 ≤ G.2.2.2 200) (hL : G.2.2.2 200 < 2147483648) (hI : lwI b bm ho n A) (hkj : k ≤ 600900 ∧ j ≤ 7290000) (cont : ∀ A' n' k' j', lwI b bm ho n' A' → k' ≤ k + 40 → j' ≤ j + 2300 → xx_J G l mL_law 2048 84000 601024 7293034 Post 2062 [(4, .int (nI i)), (3, .ref ho), (2, .ref bm), (1, .ref b), (0, .ref 160)] [] A' n' k' j') : xx_J G l mL_law 2048 84000 601024 7293034 Post 389 [(4, .int (nI i)), (3, .ref ho), (2, .ref bm), (1, .ref b), (0, .ref 160)] [] A n k j := by
  obtain ⟨T, len, eA, ru, cr, nw, nb, r, S, P, bp, bn, f, ⟨D, R0, sg, hX, hW, hD8, hG⟩, ⟨M, vL, nl, S1, hM, hN, hS, hS2, htp, hT1, hM3⟩, hO, ⟨hok, hpl, hru, hrv, hrc, hz⟩, hplc⟩ := hI
  obtain ⟨hap, hap2, hna, hbp, hbn, hn1, hn2, hn3⟩ := id hplc
  obtain ⟨Ro, Fo, F2o, PSo, hRo, hFo, hF2o, hPo, hruo, heo, hoko⟩ := id hG
  obtain ⟨en9, mt9, hmt9, hro9, hrl9⟩ := id hruo
  refine J_aload_n dL_law_389 rfl rfl ?_
  refine J_callVr (As := []) dL_law_390 ml_L_128 cal_X6_errorAt im_X6_errorAt se_X6_errorAt (hX.at 0 rfl) rfl rfl rfl (Nat.le_of_ble_eq_true rfl) ⟨by decide, by decide⟩ ⟨by omega, by omega⟩ (c_X6_errorAt hst hX hW.1) ?_
  refine J_aload_n dL_law_393 rfl rfl ?_
  refine J_callVw (As := []) dL_law_394 ml_L_131 cal_X9_errorAt im_X9_errorAt se_X9_errorAt (hM.at 0 rfl) rfl rfl rfl (Nat.le_of_ble_eq_true rfl) ⟨by decide, by decide⟩ ⟨by omega, by omega⟩ (c_X9_errorAt hst hM hN hS hap hok) (fun A1 hQ1 => ?_)
  obtain ⟨M1, ms1, h01, hM1, hs1⟩ := hQ1
  have hX1 := hX.f9 (m := 1) (fun z a c => hs1 z (by unfold isM; omega)) rfl
  have hW1 := rdW.fr hW (fun z a c => hs1 z (by unfold isM; omega))
  have hG1 := hG.fr (fun z a c => hs1 z (by unfold isM; omega))
  have hO1 := hO.f9 (m := 1) (fun z a c => hs1 z (by unfold isM; omega)) rfl
  have hN1 := hN.mf hs1 (m := 9) rfl hap.p
  have hS1 := hS.mf hs1 (m := 14) rfl hap.s
  have hSb1 := hS2.mf hs1 (m := 14) rfl hap2.s
  refine J_icmp_eq (tgt := 2062) dL_law_397 rfl (fun h397 => ?_) (fun h397 => ?_)
  · exact cont _ _ _ _ ⟨T, len, eA, ru, cr, nw, _, r, S, P, bp, bn, _, ⟨D, R0, sg, hX1, hW1, hD8, hG1⟩, ⟨_, vL, nl, _, hM1, hN1, hS1, hSb1, (htp.of (ms1.1 2 (by decide)) (ms1.2 1 (by decide))), hT1, ((ms1.1 3 (by decide)).trans hM3)⟩, hO1, ⟨hok, hpl, hru, hrv, hrc, hz⟩, hplc⟩ (by omega) (by omega)
  · exact absurd (hD8.trans hM3.symm) h397
set_option maxHeartbeats 2000000 in
theorem lc_4 (hst : l.stackTraces = false) (hbm : b + 46 ≤ bm) (hho : ho = bm + 48) (hi : i + 6 ≤ G.2.2.2 200) (hL : G.2.2.2 200 < 2147483648) (hI : lwI b bm ho n A) (hkj : k ≤ 600900 ∧ j ≤ 7290000) (cont : ∀ A' n' k' j', lwI b bm ho n' A' → k' ≤ k + 40 → j' ≤ j + 2300 → xx_J G l mL_law 2048 84000 601024 7293034 Post 2062 [(4, .int (nI i)), (3, .ref ho), (2, .ref bm), (1, .ref b), (0, .ref 160)] [] A' n' k' j') : xx_J G l mL_law 2048 84000 601024 7293034 Post 402 [(4, .int (nI i)), (3, .ref ho), (2, .ref bm), (1, .ref b), (0, .ref 160)] [] A n k j := by
  obtain ⟨T, len, eA, ru, cr, nw, nb, r, S, P, bp, bn, f, ⟨D, R0, sg, hX, hW, hD8, hG⟩, ⟨M, vL, nl, S1, hM, hN, hS, hS2, htp, hT1, hM3⟩, hO, ⟨hok, hpl, hru, hrv, hrc, hz⟩, hplc⟩ := hI
  obtain ⟨hap, hap2, hna, hbp, hbn, hn1, hn2, hn3⟩ := id hplc
  obtain ⟨Ro, Fo, F2o, PSo, hRo, hFo, hF2o, hPo, hruo, heo, hoko⟩ := id hG
  obtain ⟨en9, mt9, hmt9, hro9, hrl9⟩ := id hruo
  refine J_aload_n dL_law_402 rfl rfl ?_
  refine J_callVr (As := []) dL_law_403 ml_L_132 cal_X6_wrestlers im_X6_wrestlers se_X6_wrestlers (hX.at 0 rfl) rfl rfl rfl (Nat.le_of_ble_eq_true rfl) ⟨by decide, by decide⟩ ⟨by omega, by omega⟩ (c_X6_wrestlers hst hX hFo hRo hoko.1.1 hoko.1.2 hoko.2.1.1 hoko.2.1.2) ?_
  refine J_aload_n dL_law_406 rfl rfl ?_
  refine J_callVw (As := []) dL_law_407 ml_L_135 cal_X9_wrestlers im_X9_wrestlers se_X9_wrestlers (hM.at 0 rfl) rfl rfl rfl (Nat.le_of_ble_eq_true rfl) ⟨by decide, by decide⟩ ⟨by omega, by omega⟩ (c_X9_wrestlers hst hM hN hS hap hok) (fun A1 hQ1 => ?_)
  obtain ⟨M1, ms1, h01, hM1, hs1⟩ := hQ1
  have hX1 := hX.f9 (m := 1) (fun z a c => hs1 z (by unfold isM; omega)) rfl
  have hW1 := rdW.fr hW (fun z a c => hs1 z (by unfold isM; omega))
  have hG1 := hG.fr (fun z a c => hs1 z (by unfold isM; omega))
  have hO1 := hO.f9 (m := 1) (fun z a c => hs1 z (by unfold isM; omega)) rfl
  have hN1 := hN.mf hs1 (m := 9) rfl hap.p
  have hS1 := hS.mf hs1 (m := 14) rfl hap.s
  have hSb1 := hS2.mf hs1 (m := 14) rfl hap2.s
  refine J_icmp_eq (tgt := 2062) dL_law_410 rfl (fun h410 => ?_) (fun h410 => ?_)
  · exact cont _ _ _ _ ⟨T, len, eA, ru, cr, nw, _, r, S, P, bp, bn, _, ⟨D, R0, sg, hX1, hW1, hD8, hG1⟩, ⟨_, vL, nl, _, hM1, hN1, hS1, hSb1, (htp.of (ms1.1 2 (by decide)) (ms1.2 1 (by decide))), hT1, ((ms1.1 3 (by decide)).trans hM3)⟩, hO1, ⟨hok, hpl, hru, hrv, hrc, hz⟩, hplc⟩ (by omega) (by omega)
  · exact absurd (heo.1.1) h410
set_option maxHeartbeats 2000000 in
theorem lc_5 (hst : l.stackTraces = false) (hbm : b + 46 ≤ bm) (hho : ho = bm + 48) (hi : i + 6 ≤ G.2.2.2 200) (hL : G.2.2.2 200 < 2147483648) (hI : lwI b bm ho n A) (hkj : k ≤ 600900 ∧ j ≤ 7290000) (cont : ∀ A' n' k' j', lwI b bm ho n' A' → k' ≤ k + 40 → j' ≤ j + 2300 → xx_J G l mL_law 2048 84000 601024 7293034 Post 2062 [(4, .int (nI i)), (3, .ref ho), (2, .ref bm), (1, .ref b), (0, .ref 160)] [] A' n' k' j') : xx_J G l mL_law 2048 84000 601024 7293034 Post 415 [(4, .int (nI i)), (3, .ref ho), (2, .ref bm), (1, .ref b), (0, .ref 160)] [] A n k j := by
  obtain ⟨T, len, eA, ru, cr, nw, nb, r, S, P, bp, bn, f, ⟨D, R0, sg, hX, hW, hD8, hG⟩, ⟨M, vL, nl, S1, hM, hN, hS, hS2, htp, hT1, hM3⟩, hO, ⟨hok, hpl, hru, hrv, hrc, hz⟩, hplc⟩ := hI
  obtain ⟨hap, hap2, hna, hbp, hbn, hn1, hn2, hn3⟩ := id hplc
  obtain ⟨Ro, Fo, F2o, PSo, hRo, hFo, hF2o, hPo, hruo, heo, hoko⟩ := id hG
  obtain ⟨en9, mt9, hmt9, hro9, hrl9⟩ := id hruo
  refine J_aload_n dL_law_415 rfl rfl ?_
  refine J_callVr (As := []) dL_law_416 ml_L_136 cal_X6_wrestlersIn im_X6_wrestlersIn se_X6_wrestlersIn (hX.at 0 rfl) rfl rfl rfl (Nat.le_of_ble_eq_true rfl) ⟨by decide, by decide⟩ ⟨by omega, by omega⟩ (c_X6_wrestlersIn hst hX hFo hRo hoko.1.1 hoko.1.2 hoko.2.1.1 hoko.2.1.2) ?_
  refine J_aload_n dL_law_419 rfl rfl ?_
  refine J_callVw (As := []) dL_law_420 ml_L_139 cal_X9_wrestlersIn im_X9_wrestlersIn se_X9_wrestlersIn (hM.at 0 rfl) rfl rfl rfl (Nat.le_of_ble_eq_true rfl) ⟨by decide, by decide⟩ ⟨by omega, by omega⟩ (c_X9_wrestlersIn hst hM hN hS hap hok) (fun A1 hQ1 => ?_)
  obtain ⟨M1, ms1, h01, hM1, hs1⟩ := hQ1
  have hX1 := hX.f9 (m := 1) (fun z a c => hs1 z (by unfold isM; omega)) rfl
  have hW1 := rdW.fr hW (fun z a c => hs1 z (by unfold isM; omega))
  have hG1 := hG.fr (fun z a c => hs1 z (by unfold isM; omega))
  have hO1 := hO.f9 (m := 1) (fun z a c => hs1 z (by unfold isM; omega)) rfl
  have hN1 := hN.mf hs1 (m := 9) rfl hap.p
  have hS1 := hS.mf hs1 (m := 14) rfl hap.s
  have hSb1 := hS2.mf hs1 (m := 14) rfl hap2.s
  refine J_icmp_eq (tgt := 2062) dL_law_423 rfl (fun h423 => ?_) (fun h423 => ?_)
  · exact cont _ _ _ _ ⟨T, len, eA, ru, cr, nw, _, r, S, P, bp, bn, _, ⟨D, R0, sg, hX1, hW1, hD8, hG1⟩, ⟨_, vL, nl, _, hM1, hN1, hS1, hSb1, (htp.of (ms1.1 2 (by decide)) (ms1.2 1 (by decide))), hT1, ((ms1.1 3 (by decide)).trans hM3)⟩, hO1, ⟨hok, hpl, hru, hrv, hrc, hz⟩, hplc⟩ (by omega) (by omega)
  · exact absurd (heo.sum (c := 8) (by decide)) h423
set_option maxHeartbeats 2000000 in
theorem lc_6 (hst : l.stackTraces = false) (hbm : b + 46 ≤ bm) (hho : ho = bm + 48) (hi : i + 6 ≤ G.2.2.2 200) (hL : G.2.2.2 200 < 2147483648) (hI : lwI b bm ho n A) (hkj : k ≤ 600900 ∧ j ≤ 7290000) (cont : ∀ A' n' k' j', lwI b bm ho n' A' → k' ≤ k + 40 → j' ≤ j + 2300 → xx_J G l mL_law 2048 84000 601024 7293034 Post 2062 [(4, .int (nI i)), (3, .ref ho), (2, .ref bm), (1, .ref b), (0, .ref 160)] [] A' n' k' j') : xx_J G l mL_law 2048 84000 601024 7293034 Post 428 [(4, .int (nI i)), (3, .ref ho), (2, .ref bm), (1, .ref b), (0, .ref 160)] [] A n k j := by
  obtain ⟨T, len, eA, ru, cr, nw, nb, r, S, P, bp, bn, f, ⟨D, R0, sg, hX, hW, hD8, hG⟩, ⟨M, vL, nl, S1, hM, hN, hS, hS2, htp, hT1, hM3⟩, hO, ⟨hok, hpl, hru, hrv, hrc, hz⟩, hplc⟩ := hI
  obtain ⟨hap, hap2, hna, hbp, hbn, hn1, hn2, hn3⟩ := id hplc
  obtain ⟨Ro, Fo, F2o, PSo, hRo, hFo, hF2o, hPo, hruo, heo, hoko⟩ := id hG
  obtain ⟨en9, mt9, hmt9, hro9, hrl9⟩ := id hruo
  refine J_aload_n dL_law_428 rfl rfl ?_
  refine J_callVr (As := []) dL_law_429 ml_L_140 cal_X6_rules im_X6_rules se_X6_rules (hX.at 0 rfl) rfl rfl rfl (Nat.le_of_ble_eq_true rfl) ⟨by decide, by decide⟩ ⟨by omega, by omega⟩ (c_X6_rules hst hX hFo hRo hoko.1.1 hoko.1.2 hoko.2.1.1 hoko.2.1.2) ?_
  refine J_aload_n dL_law_432 rfl rfl ?_
  refine J_callVw (As := []) dL_law_433 ml_L_143 cal_X9_rules im_X9_rules se_X9_rules (hM.at 0 rfl) rfl rfl rfl (Nat.le_of_ble_eq_true rfl) ⟨by decide, by decide⟩ ⟨by omega, by omega⟩ (c_X9_rules hst hM hN hS hap hok) (fun A1 hQ1 => ?_)
  obtain ⟨M1, ms1, h01, hM1, hs1⟩ := hQ1
  have hX1 := hX.f9 (m := 1) (fun z a c => hs1 z (by unfold isM; omega)) rfl
  have hW1 := rdW.fr hW (fun z a c => hs1 z (by unfold isM; omega))
  have hG1 := hG.fr (fun z a c => hs1 z (by unfold isM; omega))
  have hO1 := hO.f9 (m := 1) (fun z a c => hs1 z (by unfold isM; omega)) rfl
  have hN1 := hN.mf hs1 (m := 9) rfl hap.p
  have hS1 := hS.mf hs1 (m := 14) rfl hap.s
  have hSb1 := hS2.mf hs1 (m := 14) rfl hap2.s
  refine J_icmp_eq (tgt := 2062) dL_law_436 rfl (fun h436 => ?_) (fun h436 => ?_)
  · exact cont _ _ _ _ ⟨T, len, eA, ru, cr, nw, _, r, S, P, bp, bn, _, ⟨D, R0, sg, hX1, hW1, hD8, hG1⟩, ⟨_, vL, nl, _, hM1, hN1, hS1, hSb1, (htp.of (ms1.1 2 (by decide)) (ms1.2 1 (by decide))), hT1, ((ms1.1 3 (by decide)).trans hM3)⟩, hO1, ⟨hok, hpl, hru, hrv, hrc, hz⟩, hplc⟩ (by omega) (by omega)
  · exact absurd (hro9.1.trans hpl.1.symm) h436
set_option maxHeartbeats 2000000 in
theorem lc_7 (hst : l.stackTraces = false) (hbm : b + 46 ≤ bm) (hho : ho = bm + 48) (hi : i + 6 ≤ G.2.2.2 200) (hL : G.2.2.2 200 < 2147483648) (hI : lwI b bm ho n A) (hkj : k ≤ 600900 ∧ j ≤ 7290000) (cont : ∀ A' n' k' j', lwI b bm ho n' A' → k' ≤ k + 40 → j' ≤ j + 2300 → xx_J G l mL_law 2048 84000 601024 7293034 Post 2062 [(4, .int (nI i)), (3, .ref ho), (2, .ref bm), (1, .ref b), (0, .ref 160)] [] A' n' k' j') : xx_J G l mL_law 2048 84000 601024 7293034 Post 441 [(4, .int (nI i)), (3, .ref ho), (2, .ref bm), (1, .ref b), (0, .ref 160)] [] A n k j := by
  obtain ⟨T, len, eA, ru, cr, nw, nb, r, S, P, bp, bn, f, ⟨D, R0, sg, hX, hW, hD8, hG⟩, ⟨M, vL, nl, S1, hM, hN, hS, hS2, htp, hT1, hM3⟩, hO, ⟨hok, hpl, hru, hrv, hrc, hz⟩, hplc⟩ := hI
  obtain ⟨hap, hap2, hna, hbp, hbn, hn1, hn2, hn3⟩ := id hplc
  obtain ⟨Ro, Fo, F2o, PSo, hRo, hFo, hF2o, hPo, hruo, heo, hoko⟩ := id hG
  obtain ⟨en9, mt9, hmt9, hro9, hrl9⟩ := id hruo
  refine J_aload_n dL_law_441 rfl rfl ?_
  refine J_callVr (As := []) dL_law_442 ml_L_144 cal_X6_rounds im_X6_rounds se_X6_rounds (hX.at 0 rfl) rfl rfl rfl (Nat.le_of_ble_eq_true rfl) ⟨by decide, by decide⟩ ⟨by omega, by omega⟩ (c_X6_rounds hst hX hFo hRo hoko.1.1 hoko.1.2 hoko.2.1.1 hoko.2.1.2) ?_
  refine J_aload_n dL_law_445 rfl rfl ?_
  refine J_callVw (As := []) dL_law_446 ml_L_147 cal_X9_rounds im_X9_rounds se_X9_rounds (hM.at 0 rfl) rfl rfl rfl (Nat.le_of_ble_eq_true rfl) ⟨by decide, by decide⟩ ⟨by omega, by omega⟩ (c_X9_rounds hst hM hN hS hap hok) (fun A1 hQ1 => ?_)
  obtain ⟨M1, ms1, h01, hM1, hs1⟩ := hQ1
  have hX1 := hX.f9 (m := 1) (fun z a c => hs1 z (by unfold isM; omega)) rfl
  have hW1 := rdW.fr hW (fun z a c => hs1 z (by unfold isM; omega))
  have hG1 := hG.fr (fun z a c => hs1 z (by unfold isM; omega))
  have hO1 := hO.f9 (m := 1) (fun z a c => hs1 z (by unfold isM; omega)) rfl
  have hN1 := hN.mf hs1 (m := 9) rfl hap.p
  have hS1 := hS.mf hs1 (m := 14) rfl hap.s
  have hSb1 := hS2.mf hs1 (m := 14) rfl hap2.s
  refine J_icmp_eq (tgt := 2062) dL_law_449 rfl (fun h449 => ?_) (fun h449 => ?_)
  · exact cont _ _ _ _ ⟨T, len, eA, ru, cr, nw, _, r, S, P, bp, bn, _, ⟨D, R0, sg, hX1, hW1, hD8, hG1⟩, ⟨_, vL, nl, _, hM1, hN1, hS1, hSb1, (htp.of (ms1.1 2 (by decide)) (ms1.2 1 (by decide))), hT1, ((ms1.1 3 (by decide)).trans hM3)⟩, hO1, ⟨hok, hpl, hru, hrv, hrc, hz⟩, hplc⟩ (by omega) (by omega)
  · exact absurd (heo.1.2.1) h449
set_option maxHeartbeats 2000000 in
theorem lc_8 (hst : l.stackTraces = false) (hbm : b + 46 ≤ bm) (hho : ho = bm + 48) (hi : i + 6 ≤ G.2.2.2 200) (hL : G.2.2.2 200 < 2147483648) (hI : lwI b bm ho n A) (hkj : k ≤ 600900 ∧ j ≤ 7290000) (cont : ∀ A' n' k' j', lwI b bm ho n' A' → k' ≤ k + 40 → j' ≤ j + 2300 → xx_J G l mL_law 2048 84000 601024 7293034 Post 2062 [(4, .int (nI i)), (3, .ref ho), (2, .ref bm), (1, .ref b), (0, .ref 160)] [] A' n' k' j') : xx_J G l mL_law 2048 84000 601024 7293034 Post 454 [(4, .int (nI i)), (3, .ref ho), (2, .ref bm), (1, .ref b), (0, .ref 160)] [] A n k j := by
  obtain ⟨T, len, eA, ru, cr, nw, nb, r, S, P, bp, bn, f, ⟨D, R0, sg, hX, hW, hD8, hG⟩, ⟨M, vL, nl, S1, hM, hN, hS, hS2, htp, hT1, hM3⟩, hO, ⟨hok, hpl, hru, hrv, hrc, hz⟩, hplc⟩ := hI
  obtain ⟨hap, hap2, hna, hbp, hbn, hn1, hn2, hn3⟩ := id hplc
  obtain ⟨Ro, Fo, F2o, PSo, hRo, hFo, hF2o, hPo, hruo, heo, hoko⟩ := id hG
  obtain ⟨en9, mt9, hmt9, hro9, hrl9⟩ := id hruo
  refine J_aload_n dL_law_454 rfl rfl ?_
  refine J_callVr (As := []) dL_law_455 ml_L_148 cal_X6_tapeBytes im_X6_tapeBytes se_X6_tapeBytes (hX.at 0 rfl) rfl rfl rfl (Nat.le_of_ble_eq_true rfl) ⟨by decide, by decide⟩ ⟨by omega, by omega⟩ (c_X6_tapeBytes hst hX hW.2.1) ?_
  refine J_aload_n dL_law_458 rfl rfl ?_
  refine J_callVw (As := []) dL_law_459 ml_L_151 cal_X9_tapeBytes im_X9_tapeBytes se_X9_tapeBytes (hM.at 0 rfl) rfl rfl rfl (Nat.le_of_ble_eq_true rfl) ⟨by decide, by decide⟩ ⟨by omega, by omega⟩ (c_X9_tapeBytes hst hM hN hS hap hok) (fun A1 hQ1 => ?_)
  obtain ⟨M1, ms1, h01, hM1, hs1⟩ := hQ1
  have hX1 := hX.f9 (m := 1) (fun z a c => hs1 z (by unfold isM; omega)) rfl
  have hW1 := rdW.fr hW (fun z a c => hs1 z (by unfold isM; omega))
  have hG1 := hG.fr (fun z a c => hs1 z (by unfold isM; omega))
  have hO1 := hO.f9 (m := 1) (fun z a c => hs1 z (by unfold isM; omega)) rfl
  have hN1 := hN.mf hs1 (m := 9) rfl hap.p
  have hS1 := hS.mf hs1 (m := 14) rfl hap.s
  have hSb1 := hS2.mf hs1 (m := 14) rfl hap2.s
  refine J_icmp_eq (tgt := 2062) dL_law_462 rfl (fun h462 => ?_) (fun h462 => ?_)
  · exact cont _ _ _ _ ⟨T, len, eA, ru, cr, nw, _, r, S, P, bp, bn, _, ⟨D, R0, sg, hX1, hW1, hD8, hG1⟩, ⟨_, vL, nl, _, hM1, hN1, hS1, hSb1, (htp.of (ms1.1 2 (by decide)) (ms1.2 1 (by decide))), hT1, ((ms1.1 3 (by decide)).trans hM3)⟩, hO1, ⟨hok, hpl, hru, hrv, hrc, hz⟩, hplc⟩ (by omega) (by omega)
  · exact absurd (hT1.trans htp.1.symm) h462
set_option maxHeartbeats 2000000 in
theorem lc_9 (hst : l.stackTraces = false) (hbm : b + 46 ≤ bm) (hho : ho = bm + 48) (hi : i + 6 ≤ G.2.2.2 200) (hL : G.2.2.2 200 < 2147483648) (hI : lwI b bm ho n A) (hkj : k ≤ 600900 ∧ j ≤ 7290000) (cont : ∀ A' n' k' j', lwI b bm ho n' A' → k' ≤ k + 40 → j' ≤ j + 2300 → xx_J G l mL_law 2048 84000 601024 7293034 Post 2062 [(4, .int (nI i)), (3, .ref ho), (2, .ref bm), (1, .ref b), (0, .ref 160)] [] A' n' k' j') : xx_J G l mL_law 2048 84000 601024 7293034 Post 467 [(4, .int (nI i)), (3, .ref ho), (2, .ref bm), (1, .ref b), (0, .ref 160)] [] A n k j := by
  obtain ⟨T, len, eA, ru, cr, nw, nb, r, S, P, bp, bn, f, ⟨D, R0, sg, hX, hW, hD8, hG⟩, ⟨M, vL, nl, S1, hM, hN, hS, hS2, htp, hT1, hM3⟩, hO, ⟨hok, hpl, hru, hrv, hrc, hz⟩, hplc⟩ := hI
  obtain ⟨hap, hap2, hna, hbp, hbn, hn1, hn2, hn3⟩ := id hplc
  obtain ⟨Ro, Fo, F2o, PSo, hRo, hFo, hF2o, hPo, hruo, heo, hoko⟩ := id hG
  obtain ⟨en9, mt9, hmt9, hro9, hrl9⟩ := id hruo
  refine J_aload_n dL_law_467 rfl rfl ?_
  refine J_callVr (As := []) dL_law_468 ml_L_152 cal_X6_bouts im_X6_bouts se_X6_bouts (hX.at 0 rfl) rfl rfl rfl (Nat.le_of_ble_eq_true rfl) ⟨by decide, by decide⟩ ⟨by omega, by omega⟩ (c_X6_bouts hst hX hFo hRo hoko.1.1 hoko.1.2 hoko.2.1.1 hoko.2.1.2) ?_
  refine J_aload_n dL_law_471 rfl rfl ?_
  refine J_callVw (As := []) dL_law_472 ml_L_155 cal_X9_bouts im_X9_bouts se_X9_bouts (hM.at 0 rfl) rfl rfl rfl (Nat.le_of_ble_eq_true rfl) ⟨by decide, by decide⟩ ⟨by omega, by omega⟩ (c_X9_bouts hst hM hN hS hap hok) (fun A1 hQ1 => ?_)
  obtain ⟨M1, ms1, h01, hM1, hs1⟩ := hQ1
  have hX1 := hX.f9 (m := 1) (fun z a c => hs1 z (by unfold isM; omega)) rfl
  have hW1 := rdW.fr hW (fun z a c => hs1 z (by unfold isM; omega))
  have hG1 := hG.fr (fun z a c => hs1 z (by unfold isM; omega))
  have hO1 := hO.f9 (m := 1) (fun z a c => hs1 z (by unfold isM; omega)) rfl
  have hN1 := hN.mf hs1 (m := 9) rfl hap.p
  have hS1 := hS.mf hs1 (m := 14) rfl hap.s
  have hSb1 := hS2.mf hs1 (m := 14) rfl hap2.s
  refine J_icmp_eq (tgt := 2062) dL_law_475 rfl (fun h475 => ?_) (fun h475 => ?_)
  · exact cont _ _ _ _ ⟨T, len, eA, ru, cr, nw, _, r, S, P, bp, bn, _, ⟨D, R0, sg, hX1, hW1, hD8, hG1⟩, ⟨_, vL, nl, _, hM1, hN1, hS1, hSb1, (htp.of (ms1.1 2 (by decide)) (ms1.2 1 (by decide))), hT1, ((ms1.1 3 (by decide)).trans hM3)⟩, hO1, ⟨hok, hpl, hru, hrv, hrc, hz⟩, hplc⟩ (by omega) (by omega)
  · exact absurd (heo.1.2.2.1) h475
set_option maxHeartbeats 2000000 in
theorem lc_10 (hst : l.stackTraces = false) (hbm : b + 46 ≤ bm) (hho : ho = bm + 48) (hi : i + 6 ≤ G.2.2.2 200) (hL : G.2.2.2 200 < 2147483648) (hI : lwI b bm ho n A) (hkj : k ≤ 600900 ∧ j ≤ 7290000) (cont : ∀ A' n' k' j', lwI b bm ho n' A' → k' ≤ k + 40 → j' ≤ j + 2300 → xx_J G l mL_law 2048 84000 601024 7293034 Post 2062 [(4, .int (nI i)), (3, .ref ho), (2, .ref bm), (1, .ref b), (0, .ref 160)] [] A' n' k' j') : xx_J G l mL_law 2048 84000 601024 7293034 Post 480 [(4, .int (nI i)), (3, .ref ho), (2, .ref bm), (1, .ref b), (0, .ref 160)] [] A n k j := by
  obtain ⟨T, len, eA, ru, cr, nw, nb, r, S, P, bp, bn, f, ⟨D, R0, sg, hX, hW, hD8, hG⟩, ⟨M, vL, nl, S1, hM, hN, hS, hS2, htp, hT1, hM3⟩, hO, ⟨hok, hpl, hru, hrv, hrc, hz⟩, hplc⟩ := hI
  obtain ⟨hap, hap2, hna, hbp, hbn, hn1, hn2, hn3⟩ := id hplc
  obtain ⟨Ro, Fo, F2o, PSo, hRo, hFo, hF2o, hPo, hruo, heo, hoko⟩ := id hG
  obtain ⟨en9, mt9, hmt9, hro9, hrl9⟩ := id hruo
  refine J_aload_n dL_law_480 rfl rfl ?_
  refine J_callVr (As := []) dL_law_481 ml_L_156 cal_X6_openBouts im_X6_openBouts se_X6_openBouts (hX.at 0 rfl) rfl rfl rfl (Nat.le_of_ble_eq_true rfl) ⟨by decide, by decide⟩ ⟨by omega, by omega⟩ (c_X6_openBouts hst hX hFo hRo hoko.1.1 hoko.1.2 hoko.2.1.1 hoko.2.1.2) ?_
  refine J_aload_n dL_law_484 rfl rfl ?_
  refine J_callVw (As := []) dL_law_485 ml_L_159 cal_X9_openBouts im_X9_openBouts se_X9_openBouts (hM.at 0 rfl) rfl rfl rfl (Nat.le_of_ble_eq_true rfl) ⟨by decide, by decide⟩ ⟨by omega, by omega⟩ (c_X9_openBouts hst hM hN hS hap hok) (fun A1 hQ1 => ?_)
  obtain ⟨M1, ms1, h01, hM1, hs1⟩ := hQ1
  have hX1 := hX.f9 (m := 1) (fun z a c => hs1 z (by unfold isM; omega)) rfl
  have hW1 := rdW.fr hW (fun z a c => hs1 z (by unfold isM; omega))
  have hG1 := hG.fr (fun z a c => hs1 z (by unfold isM; omega))
  have hO1 := hO.f9 (m := 1) (fun z a c => hs1 z (by unfold isM; omega)) rfl
  have hN1 := hN.mf hs1 (m := 9) rfl hap.p
  have hS1 := hS.mf hs1 (m := 14) rfl hap.s
  have hSb1 := hS2.mf hs1 (m := 14) rfl hap2.s
  refine J_icmp_eq (tgt := 2062) dL_law_488 rfl (fun h488 => ?_) (fun h488 => ?_)
  · exact cont _ _ _ _ ⟨T, len, eA, ru, cr, nw, _, r, S, P, bp, bn, _, ⟨D, R0, sg, hX1, hW1, hD8, hG1⟩, ⟨_, vL, nl, _, hM1, hN1, hS1, hSb1, (htp.of (ms1.1 2 (by decide)) (ms1.2 1 (by decide))), hT1, ((ms1.1 3 (by decide)).trans hM3)⟩, hO1, ⟨hok, hpl, hru, hrv, hrc, hz⟩, hplc⟩ (by omega) (by omega)
  · exact absurd (op_c heo) h488
end XLCe
