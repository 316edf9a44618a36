/-! THE LAW: its cases -/
section XLCf
variable {G : xx_G} {l : Launch} {A : xx_H} {n b bm ho i k j : Nat} {Post : xx_Q}
set_option maxHeartbeats 2000000 in
theorem lc_38 (hst : l.stackTraces = false) (hbm : b + 46 ≤ bm) (hho : ho = bm + 48) (hi : i + 6 ≤ G.2.2.2 200) (hL : G.2.2.2 200 < 2147483648) (hI : lwI b bm ho n A) (hkj : k ≤ 600900 ∧ j ≤ 7290000) (cont : ∀ A' n' k' j', lwI b bm ho n' A' → k' ≤ k + 40 → j' ≤ j + 2300 → xx_J G l mL_law 2048 84000 601024 7293034 Post 2062 [(4, .int (nI i)), (3, .ref ho), (2, .ref bm), (1, .ref b), (0, .ref 160)] [] A' n' k' j') : xx_J G l mL_law 2048 84000 601024 7293034 Post 2007 [(4, .int (nI i)), (3, .ref ho), (2, .ref bm), (1, .ref b), (0, .ref 160)] [] A n k j := by
  obtain ⟨T, len, eA, ru, cr, nw, nb, r, S, P, bp, bn, f, ⟨D, R0, sg, hX, hW, hD8, hG⟩, ⟨M, vL, nl, S1, hM, hN, hS, hS2, htp, hT1, hM3⟩, hO, ⟨hok, hpl, hru, hrv, hrc, hz⟩, hplc⟩ := hI
  obtain ⟨hap, hap2, hna, hbp, hbn, hn1, hn2, hn3⟩ := id hplc
  obtain ⟨Ro, Fo, F2o, PSo, hRo, hFo, hF2o, hPo, hruo, heo, hoko⟩ := id hG
  obtain ⟨en9, mt9, hmt9, hro9, hrl9⟩ := id hruo
  refine J_aload_n dL_law_2007 rfl rfl ?_
  refine J_callVr (As := []) dL_law_2008 ml_L_243 cal_X6_meanPoints im_X6_meanPoints se_X6_meanPoints (hX.at 0 rfl) rfl rfl rfl (Nat.le_of_ble_eq_true rfl) ⟨by decide, by decide⟩ ⟨by omega, by omega⟩ (c_X6_meanPoints hst hX hFo hoko.1.1 hoko.1.2) ?_
  rw [mnD_c heo]
  refine J_dstore (L' := [(5, _), (4, _), (3, _), (2, _), (1, _), (0, _)]) dL_law_2011 (by decide) rfl ?_
  refine J_aload_n dL_law_2013 rfl rfl ?_
  refine J_callVw (As := []) dL_law_2014 ml_L_247 cal_X9_meanPoints im_X9_meanPoints se_X9_meanPoints (hM.at 0 rfl) rfl rfl rfl (Nat.le_of_ble_eq_true rfl) ⟨by decide, by decide⟩ ⟨by omega, by omega⟩ (c_X9_meanPoints hst hM hN hS hap hok) (fun A1 hQ1 => ?_)
  obtain ⟨M1, ms1, h01, hM1, hs1⟩ := hQ1
  have hX1 := hX.f9 (m := 1) (fun z a c => hs1 z (by unfold isM; omega)) rfl
  have hW1 := rdW.fr hW (fun z a c => hs1 z (by unfold isM; omega))
  have hG1 := hG.fr (fun z a c => hs1 z (by unfold isM; omega))
  have hO1 := hO.f9 (m := 1) (fun z a c => hs1 z (by unfold isM; omega)) rfl
  have hN1 := hN.mf hs1 (m := 9) rfl hap.p
  have hS1 := hS.mf hs1 (m := 14) rfl hap.s
  have hSb1 := hS2.mf hs1 (m := 14) rfl hap2.s
  refine J_dstore (L' := [(7, _), (5, _), (4, _), (3, _), (2, _), (1, _), (0, _)]) dL_law_2017 (by decide) rfl ?_
  refine J_dload dL_law_2019 rfl ?_
  refine J_dload dL_law_2021 rfl ?_
  refine J_dcmp dL_law_2023 ?_
  refine J_if_eq (tgt := 2045) dL_law_2024 rfl (fun h2024 => ?_) (fun h2024 => ?_)
  · refine J_goto (tgt := 2062) dL_law_2045 rfl ?_
    refine xx_J.pick [2, 3, 4, 5, 6] rfl ?_
    exact cont _ _ _ _ ⟨T, len, eA, ru, cr, nw, _, r, S, P, bp, bn, _, ⟨D, R0, sg, hX1, hW1, hD8, hG1⟩, ⟨_, vL, nl, _, hM1, hN1, hS1, hSb1, (htp.of (ms1.1 2 (by decide)) (ms1.2 1 (by decide))), hT1, ((ms1.1 3 (by decide)).trans hM3)⟩, hO1, ⟨hok, hpl, hru, hrv, hrc, hz⟩, hplc⟩ (by omega) (by omega)
  · refine J_dload dL_law_2027 rfl ?_
    refine J_dload dL_law_2029 rfl ?_
    refine J_dcmp dL_law_2031 ?_
    refine J_if_eq (tgt := 2043) dL_law_2032 rfl (fun h2032 => ?_) (fun h2032 => ?_)
    · exact absurd h2032 h2024
    · refine J_dload dL_law_2035 rfl ?_
      refine J_dload dL_law_2037 rfl ?_
      refine J_dcmp dL_law_2039 ?_
      refine J_if_ne (tgt := 2045) dL_law_2040 rfl (fun h2040 => ?_) (fun h2040 => ?_)
      · refine J_goto (tgt := 2062) dL_law_2045 rfl ?_
        refine xx_J.pick [2, 3, 4, 5, 6] rfl ?_
        exact cont _ _ _ _ ⟨T, len, eA, ru, cr, nw, _, r, S, P, bp, bn, _, ⟨D, R0, sg, hX1, hW1, hD8, hG1⟩, ⟨_, vL, nl, _, hM1, hN1, hS1, hSb1, (htp.of (ms1.1 2 (by decide)) (ms1.2 1 (by decide))), hT1, ((ms1.1 3 (by decide)).trans hM3)⟩, hO1, ⟨hok, hpl, hru, hrv, hrc, hz⟩, hplc⟩ (by omega) (by omega)
      · exact absurd h2040 h2024
set_option maxHeartbeats 2000000 in
theorem lc_39 (hst : l.stackTraces = false) (hbm : b + 46 ≤ bm) (hho : ho = bm + 48) (hi : i + 6 ≤ G.2.2.2 200) (hL : G.2.2.2 200 < 2147483648) (hI : lwI b bm ho n A) (hkj : k ≤ 600900 ∧ j ≤ 7290000) (cont : ∀ A' n' k' j', lwI b bm ho n' A' → k' ≤ k + 40 → j' ≤ j + 2300 → xx_J G l mL_law 2048 84000 601024 7293034 Post 2062 [(4, .int (nI i)), (3, .ref ho), (2, .ref bm), (1, .ref b), (0, .ref 160)] [] A' n' k' j') : xx_J G l mL_law 2048 84000 601024 7293034 Post 2048 [(4, .int (nI i)), (3, .ref ho), (2, .ref bm), (1, .ref b), (0, .ref 160)] [] A n k j := by
  obtain ⟨T, len, eA, ru, cr, nw, nb, r, S, P, bp, bn, f, ⟨D, R0, sg, hX, hW, hD8, hG⟩, ⟨M, vL, nl, S1, hM, hN, hS, hS2, htp, hT1, hM3⟩, hO, ⟨hok, hpl, hru, hrv, hrc, hz⟩, hplc⟩ := hI
  obtain ⟨hap, hap2, hna, hbp, hbn, hn1, hn2, hn3⟩ := id hplc
  obtain ⟨Ro, Fo, F2o, PSo, hRo, hFo, hF2o, hPo, hruo, heo, hoko⟩ := id hG
  obtain ⟨en9, mt9, hmt9, hro9, hrl9⟩ := id hruo
  refine J_aload_n dL_law_2048 rfl rfl ?_
  refine J_callV (As := []) dL_law_2049 ml_L_248 cal_X6_digest im_X6_digest se_X6_digest (hX.at 0 rfl) rfl rfl rfl (Nat.le_of_ble_eq_true rfl) ⟨by decide, by decide⟩ ⟨by omega, by omega⟩ (c_X6_digest hst hX hG hW.2.1 hT1) (fun E A n _ hQ => absurd hQ.2.1 (fun z => nomatch z)) (fun v1 A1 n1 _ hQ1 => ?_)
  obtain ⟨en1, ev1, hG1, hs1⟩ := hQ1
  have en1 := en1.symm
  subst en1
  cases ev1
  have hX1 := hX.f9 (m := 1) (fun z a c => hs1 z (by omega)) rfl
  have hW1 := hW.fr (fun z a c => hs1 z (by omega))
  have hM1 := hM.f9 (m := 48) (fun z a c => hs1 z (by omega)) rfl
  have hN1 := hN.f9 (m := 9) (fun z a c => hs1 z (by omega)) rfl
  have hS1 := hS.f9 (m := 14) (fun z a c => hs1 z (by omega)) rfl
  have hSb1 := hS2.f9 (m := 14) (fun z a c => hs1 z (by omega)) rfl
  have hO1 := hO.f9 (m := 1) (fun z a c => hs1 z (by omega)) rfl
  refine J_aload_n dL_law_2052 rfl rfl ?_
  refine J_callV (As := []) dL_law_2053 ml_L_252 cal_X9_digest im_X9_digest se_X9_digest (hM1.at 0 rfl) rfl rfl rfl (Nat.le_of_ble_eq_true rfl) ⟨by decide, by decide⟩ ⟨by omega, by omega⟩ (c_X9_digest hst hM1 hN1 hS1 hap hok hpl.1 htp.1 (by omega) (by omega) (by omega)) (fun E A n _ hQ => absurd hQ.1 (fun z => nomatch z)) (fun v2 A2 n2 _ hQ2 => ?_)
  obtain ⟨er2, en2, em2, hs2, M2, ms2, h02, hM2⟩ := hQ2
  cases er2
  have hX2 := hX1.f9 (m := 1) (fun z a c => hs2 z (by unfold isM; omega) (by omega)) rfl
  have hW2 := rdW.fr hW1 (fun z a c => hs2 z (by unfold isM; omega) (by omega))
  have hG2 := hG1.fr (fun z a c => hs2 z (by unfold isM; omega) (by omega))
  have hO2 := hO1.f9 (m := 1) (fun z a c => hs2 z (by unfold isM; omega) (by omega)) rfl
  have hN2 := hN1.f9 (m := 9) (fun z a d => hs2 z (by have := hap.p (z - bp) (by omega); rw [show bp + (z - bp) = z by omega] at this; exact this) (by omega)) rfl
  have hS2 := hS1.f9 (m := 14) (fun z a d => hs2 z (by have := hap.s (z - bn) (by omega); rw [show bn + (z - bn) = z by omega] at this; exact this) (by omega)) rfl
  have hSb2 := hSb1.f9 (m := 14) (fun z a d => hs2 z (by unfold isM; omega) (by omega)) rfl
  refine J_lcmp dL_law_2056 ?_
  refine J_if_eq (tgt := 2062) dL_law_2057 rfl (fun h2057 => ?_) (fun h2057 => ?_)
  · exact cont _ _ _ _ ⟨T, len, eA, ru, cr, nw, _, r, S, P, bp, bn, _, ⟨D, R0, sg, hX2, hW2, hD8, hG2⟩, ⟨_, vL, nl, _, hM2, hN2, hS2, hSb2, (htp.of (ms2.1 2 (by decide)) (ms2.2 1 (by decide))), hT1, ((ms2.1 3 (by decide)).trans hM3)⟩, hO2, ⟨hok, hpl, hru, hrv, hrc, hz⟩, (hplc.up en2)⟩ (by omega) (by omega)
  · exact absurd (lg_eq.mpr rfl) h2057
end XLCf
