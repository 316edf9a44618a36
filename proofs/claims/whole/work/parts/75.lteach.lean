/-! THE LAW: teach -/
section XLT
variable {G : xx_G} {l : Launch} {A : xx_H} {n b bm ho i k j : Nat} {Post : xx_Q}
set_option maxHeartbeats 2000000 in
theorem lc_2 (hst : l.stackTraces = false) (hbm : b + 46 ≤ bm) (hho : ho = bm + 48) (hI : lwI b bm ho n A) (hkj : k ≤ 600900 ∧ j ≤ 7290000) (cont : ∀ A' n' k' j', lwI b bm ho n' A' → k' ≤ k + 40 → j' ≤ j + 2300 → xx_J G l mL_law 2048 84000 601024 7293034 Post 2062 [(4, .int (nI i)), (3, .ref ho), (2, .ref bm), (1, .ref b), (0, .ref 160)] [] A' n' k' j') : xx_J G l mL_law 2048 84000 601024 7293034 Post 376 [(4, .int (nI i)), (3, .ref ho), (2, .ref bm), (1, .ref b), (0, .ref 160)] [] A n k j := by
  obtain ⟨T, len, eA, ru, cr, nw, nb, r, S, P, bp, bn, f, ⟨D, R0, sg, hX, hW, hD8, hG⟩, ⟨M, vL, nl, S1, hM, hN, hS, hS2, htp, hT1, hM3⟩, hO, hsI, hplc⟩ := hI
  obtain ⟨hap, hap2, hna, hbp, hbn, hn1, hn2, hn3⟩ := id hplc
  obtain ⟨Ro, Fo, F2o, PSo, hRo, hFo, hF2o, hPo, hruo, heo, hoko⟩ := id hG
  obtain ⟨en9, mt9, hmt9, hro9, hrl9⟩ := id hruo
  refine J_aload_n dL_law_376 rfl rfl ?_
  refine J_callVw (As := []) dL_law_377 ml_L_124 cal_X6_teach im_X6_teach se_X6_teach (hX.at 0 rfl) rfl rfl rfl (Nat.le_of_ble_eq_true rfl) ⟨by decide, by decide⟩ ⟨by omega, by omega⟩ (c_X6_teach hst hX hW hT1 htp.2.1 hRo hFo) (fun A1 hQ1 => ?_)
  obtain ⟨D1, X1, R1, sg1, Rn, Fn, hW1, hx1, hd1, hRn, hFn, hs1, hno, hyes⟩ := hQ1
  have hX1 := hX.s2 hs1 (m := 1) rfl (by omega)
  have hM1 := hM.s2 hs1 (m := 48) rfl (by omega)
  have hN1 := hN.s2 hs1 (m := 9) rfl (by omega)
  have hS1 := hS.s2 hs1 (m := 14) rfl (by omega)
  have hSb1 := hS2.s2 hs1 (m := 14) rfl (by omega)
  have hO1 := hO.s2 hs1 (m := 1) rfl (by omega)
  have hF1 := hF2o.s2 hs1 (m := 9) rfl (by omega)
  have hP1 := hPo.s2 hs1 (m := 6) rfl (by omega)
  refine J_aload_n dL_law_380 rfl rfl ?_
  refine J_callV (As := []) dL_law_381 ml_L_127 cal_X9_teach im_X9_teach se_X9_teach (hM1.at 0 rfl) rfl rfl rfl (Nat.le_of_ble_eq_true rfl) ⟨by decide, by decide⟩ ⟨by omega, by omega⟩ (c_X9_teach hst (by omega) htp hM1) (fun E A' n' _ hQ => absurd hQ.1 (fun z => nomatch z)) (fun v2 A2 n2 _ hQ2 => ?_)
  obtain ⟨er2, hnf, hn9, M2, vL2, m0, m2, m3, mk, mk2, hok2, hno2⟩ := hQ2
  cases er2
  have hX2 := hX1.f9 (m := 1) (fun z a c => hnf z (by unfold isM; omega) (by omega)) rfl
  have hW2 := hW1.fr (fun z a c => hnf z (by unfold isM; omega) (by omega))
  have hS2b := hSb1.f9 (m := 14) (fun z a c => hnf z (by unfold isM; omega) (by omega)) rfl
  have hO2 := hO1.f9 (m := 1) (fun z a c => hnf z (by unfold isM; omega) (by omega)) rfl
  have hF2 := hF1.f9 (m := 9) (fun z a c => hnf z (by unfold isM; omega) (by omega)) rfl
  have hP2 := hP1.f9 (m := 6) (fun z a c => hnf z (by unfold isM; omega) (by omega)) rfl
  have hRn2 := hRn.f9 (m := 6) (fun z a c => hnf z (by unfold isM; omega) (by omega)) rfl
  have hFn2 := hFn.f9 (m := 9) (fun z a c => hnf z (by unfold isM; omega) (by omega)) rfl
  refine J_icmp_eq (tgt := 2062) dL_law_384 rfl (fun h9 => ?_) (fun h9 => absurd rfl h9)
  by_cases hz9 : (rdV T len).1 = 0
  · obtain ⟨en, hb, hSn, P', nl', hMn, hNn, hpl', hp10, hprow⟩ := hok2 hz9
    obtain ⟨D9, R9, tok, m, hcl, _, eR, h5, hm, eF⟩ := hyes hz9
    obtain ⟨ru', cr', hrux, he, ho', hsI'⟩ := tch_tie (R := Ro) (F := Fo) hmt9 hcl h5 hm hpl' hprow
    subst eR eF
    refine cont _ _ _ _ ⟨X1, 0, -1, ru', cr', m, 0, 0, s_up x0 2 (-1), P', n, n + 9, f, ⟨D1, R1, sg1, hX2, hW2, hd1.trans (rdV_m1 hz9), ⟨_, _, F2o, PSo, hRn2, hFn2, hF2, hP2, hrux, he, ho'⟩⟩, ⟨M2, vL2, nl', S1, hMn, hNn, hSn, hS2b, ⟨m2, by omega, fun q hq => absurd hq (Nat.not_lt_zero q)⟩, hx1, m3.trans (if_pos hz9)⟩, hO2, hsI', ?_⟩ (by omega) (by omega)
    refine ⟨⟨Or.inr (by omega), Or.inr (Or.inr (by omega)), by omega⟩, ⟨Or.inr (by omega), Or.inr (Or.inl rfl), by omega⟩, by omega, by omega, by omega, by omega, by omega, by omega⟩
  · obtain ⟨en, hMn⟩ := hno2 hz9
    obtain ⟨eR, eF⟩ := hno hz9
    subst eR eF
    have hN2 := hN1.f9 (m := 9) (fun z a c => hnf z (by have := hap.p (z - bp) (by omega); rw [show bp + (z - bp) = z by omega] at this; exact this) (by omega)) rfl
    have hS2 := hS1.f9 (m := 14) (fun z a c => hnf z (by have := hap.s (z - bn) (by omega); rw [show bn + (z - bn) = z by omega] at this; exact this) (by omega)) rfl
    exact cont _ _ _ _ ⟨X1, 0, (rdV T len).2, ru, cr, nw, nb, r, S, P, bp, bn, f, ⟨D1, R1, sg1, hX2, hW2, hd1, ⟨_, _, F2o, PSo, hRn2, hFn2, hF2, hP2, hruo, heo, hoko⟩⟩, ⟨M2, vL2, nl, S1, hMn, hN2, hS2, hS2b, ⟨m2, by omega, fun q hq => absurd hq (Nat.not_lt_zero q)⟩, hx1, m3.trans (if_neg hz9)⟩, hO2, hsI, hplc.up hn9⟩ (by omega) (by omega)
end XLT
