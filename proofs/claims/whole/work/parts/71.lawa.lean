/-! THE LAW: its cases -/
section XLCa
variable {G : xx_G} {l : Launch} {A : xx_H} {n b bm ho i k j : Nat} {Post : xx_Q}
theorem layD_z9 {bt bu c : Nat} {D : xS} {z : Nat} (h : z ∈ (layD bt bu c D).map Prod.fst) : z = 0 ∨ (12 ≤ z ∧ z ≤ 14) := by
  simp only [layD, List.map_cons, List.map_nil, List.mem_cons, List.not_mem_nil, or_false] at h
  omega
theorem layD_f9 {bt bu c : Nat} {D : xS} {A' : xx_H} (h : xx_w c (layD bt bu c D) A) (o : ∀ z, (z = c ∨ (c + 12 ≤ z ∧ z ≤ c + 14)) → A' z = A z) : xx_w c (layD bt bu c D) A' := fun i z e he => by
  have hm : z ∈ (layD bt bu c D).map Prod.fst := List.mem_map.mpr ⟨(z, e), List.mem_of_getElem? he, rfl⟩
  have hz := layD_z9 hm
  rw [o _ (by omega)]
  exact h i z e he
set_option maxHeartbeats 2000000 in
theorem lc_11 (hst : l.stackTraces = false) (hbm : b + 46 ≤ bm) (hho : ho = bm + 48) (hi : i + 6 ≤ G.2.2.2 200) (hL : G.2.2.2 200 < 2147483648) (hI : lwI b bm ho n A) (hkj : k ≤ 600900 ∧ j ≤ 7290000) (cont : ∀ A' n' k' j', lwI b bm ho n' A' → k' ≤ k + 40 → j' ≤ j + 2300 → xx_J G l mL_law 2048 84000 601024 7293034 Post 2062 [(4, .int (nI i)), (3, .ref ho), (2, .ref bm), (1, .ref b), (0, .ref 160)] [] A' n' k' j') : xx_J G l mL_law 2048 84000 601024 7293034 Post 493 [(4, .int (nI i)), (3, .ref ho), (2, .ref bm), (1, .ref b), (0, .ref 160)] [] A n k j := by
  obtain ⟨T, len, eA, ru, cr, nw, nb, r, S, P, bp, bn, f, ⟨D, R0, sg, hX, hW, hD8, hG⟩, ⟨M, vL, nl, S1, hM, hN, hS, hS2, htp, hT1, hM3⟩, hO, ⟨hok, hpl, hru, hrv, hrc, hz⟩, hplc⟩ := hI
  obtain ⟨hap, hap2, hna, hbp, hbn, hn1, hn2, hn3⟩ := id hplc
  refine J_aload_n dL_law_493 rfl rfl ?_
  refine J_aload_n dL_law_494 rfl rfl ?_
  refine J_iload dL_law_495 rfl ?_
  refine J_iconst (v := 1) dL_law_497 (by decide) ?_
  refine J_iadd dL_law_498 ?_
  refine J_scr (q := i + 1) dL_law_499 (nI_add i 1) (by omega) (by omega) ?_
  refine J_aload_n dL_law_500 rfl rfl ?_
  refine J_callSX (As := [_, _, _]) dL_law_501 ml_L_160 cal_L_strengthOf rfl sm_L_strengthOf rfl (Nat.le_of_ble_eq_true rfl) ⟨by decide, by decide⟩ ⟨by omega, by omega⟩ (c_L_strengthOf (a := (aOf 0 (fS S P) (xx_scr G (i + 1)))) hst (c_X6_strengthOf hst hX hG (xx_scr G (i + 1))) hX hO (fun A1 h => hO.f9 (m := 1) (fun z a c => h.2 z (by omega)) rfl) k_Of) (fun v1 A1 n1 _ hQ1 => ?_) (fun E A n _ hQ => absurd hQ.1 (fun z => nomatch z))
  obtain ⟨er1, en1, em1, Ak1, f1, ⟨hGk1, hsk1⟩, ho1, hO1, hf1⟩ := hQ1
  cases er1
  have fr1 : ∀ z, ¬ z = ho → (z < b + 16 ∨ b + 46 ≤ z) → A1 z = A z := fun z h1 h2 => (ho1 z h1).trans (hsk1 z h2)
  have hX1 := hX.f9 (m := 1) (fun z a c => fr1 z (by omega) (by omega)) rfl
  have hW1 := hW.fr (fun z a c => fr1 z (by omega) (by omega))
  have hG1 := hGk1.fr (fun z a c => ho1 z (by omega))
  have hM1 := hM.f9 (m := 48) (fun z a c => fr1 z (by omega) (by omega)) rfl
  have hN1 := hN.f9 (m := 9) (fun z a c => fr1 z (by omega) (by omega)) rfl
  have hS1 := hS.f9 (m := 14) (fun z a c => fr1 z (by omega) (by omega)) rfl
  have hSb1 := hS2.f9 (m := 14) (fun z a c => fr1 z (by omega) (by omega)) rfl
  refine J_istore (L' := [(5, _), (4, _), (3, _), (2, _), (1, _), (0, _)]) dL_law_504 (by decide) rfl ?_
  refine J_aload_n dL_law_506 rfl rfl ?_
  refine J_aload_n dL_law_507 rfl rfl ?_
  refine J_iload dL_law_508 rfl ?_
  refine J_iconst (v := 1) dL_law_510 (by decide) ?_
  refine J_iadd dL_law_511 ?_
  refine J_scr (q := i + 1) dL_law_512 (nI_add i 1) (by omega) (by omega) ?_
  refine J_callVw (As := [_]) dL_law_513 ml_L_162 cal_X9_strengthOf im_X9_strengthOf se_X9_strengthOf (hM1.at 0 rfl) rfl rfl rfl (Nat.le_of_ble_eq_true rfl) ⟨by decide, by decide⟩ ⟨by omega, by omega⟩ (c_X9_strengthOf hst hM1 hN1 hS1 hap hok (xx_scr G (i + 1))) (fun A2 hQ2 => ?_)
  obtain ⟨M2, ms2, h02, hM2, hs2⟩ := hQ2
  have hX2 := hX1.f9 (m := 1) (fun z a c => hs2 z (by unfold isM; omega)) rfl
  have hW2 := rdW.fr hW1 (fun z a c => hs2 z (by unfold isM; omega))
  have hG2 := hG1.fr (fun z a c => hs2 z (by unfold isM; omega))
  have hO2 := hO1.f9 (m := 1) (fun z a c => hs2 z (by unfold isM; omega)) rfl
  have hN2 := hN1.mf hs2 (m := 9) rfl hap.p
  have hS2 := hS1.mf hs2 (m := 14) rfl hap.s
  have hSb2 := hSb1.mf hs2 (m := 14) rfl hap2.s
  refine J_istore (L' := [(6, _), (5, _), (4, _), (3, _), (2, _), (1, _), (0, _)]) dL_law_516 (by decide) rfl ?_
  refine J_aload_n dL_law_518 rfl rfl ?_
  refine J_callVr (As := []) dL_law_519 ml_L_117 cal_X9_thrown im_X9_thrown se_X9_thrown (hM2.at 0 rfl) rfl rfl rfl (Nat.le_of_ble_eq_true rfl) ⟨by decide, by decide⟩ ⟨by omega, by omega⟩ (c_X9_thrown hst hM2) ?_
  refine J_iload dL_law_522 rfl ?_
  refine J_icmp_eq (tgt := 529) dL_law_524 rfl (fun h524 => ?_) (fun h524 => ?_)
  · refine J_iload dL_law_529 rfl ?_
    refine J_if_ne (tgt := 546) dL_law_531 rfl (fun h531 => ?_) (fun h531 => ?_)
    · refine J_goto (tgt := 2062) dL_law_546 rfl ?_
      refine xx_J.pick [2, 3, 4, 5, 6] rfl ?_
      exact cont _ _ _ _ ⟨T, len, eA, ru, cr, nw, _, r, S, P, bp, bn, _, ⟨D, R0, sg, hX2, hW2, hD8, hG2⟩, ⟨_, vL, nl, _, hM2, hN2, hS2, hSb2, (htp.of (ms2.1 2 (by decide)) (ms2.2 1 (by decide))), hT1, ((ms2.1 3 (by decide)).trans hM3)⟩, hO2, ⟨hok, hpl, hru, hrv, hrc, hz⟩, (hplc.up en1)⟩ (by omega) (by omega)
    · refine J_aload_n dL_law_534 rfl rfl ?_
      refine J_iconst (v := 0) dL_law_535 (by decide) ?_
      refine J_laldN 0 dL_law_536 (hO2.at 0 rfl) rfl (by omega) (by decide) ?_
      refine J_iload dL_law_537 rfl ?_
      refine J_i2l dL_law_539 rfl ?_
      refine J_lcmp dL_law_540 ?_
      refine J_if_eq (tgt := 546) dL_law_541 rfl (fun h541 => ?_) (fun h541 => ?_)
      · refine J_goto (tgt := 2062) dL_law_546 rfl ?_
        refine xx_J.pick [2, 3, 4, 5, 6] rfl ?_
        exact cont _ _ _ _ ⟨T, len, eA, ru, cr, nw, _, r, S, P, bp, bn, _, ⟨D, R0, sg, hX2, hW2, hD8, hG2⟩, ⟨_, vL, nl, _, hM2, hN2, hS2, hSb2, (htp.of (ms2.1 2 (by decide)) (ms2.2 1 (by decide))), hT1, ((ms2.1 3 (by decide)).trans hM3)⟩, hO2, ⟨hok, hpl, hru, hrv, hrc, hz⟩, (hplc.up en1)⟩ (by omega) (by omega)
      · exact absurd (lg_eq.mpr (hf1 h531)) h541
  · exact absurd h02 h524
set_option maxHeartbeats 2000000 in
theorem lc_12 (hst : l.stackTraces = false) (hbm : b + 46 ≤ bm) (hho : ho = bm + 48) (hi : i + 6 ≤ G.2.2.2 200) (hL : G.2.2.2 200 < 2147483648) (hI : lwI b bm ho n A) (hkj : k ≤ 600900 ∧ j ≤ 7290000) (cont : ∀ A' n' k' j', lwI b bm ho n' A' → k' ≤ k + 40 → j' ≤ j + 2300 → xx_J G l mL_law 2048 84000 601024 7293034 Post 2062 [(4, .int (nI i)), (3, .ref ho), (2, .ref bm), (1, .ref b), (0, .ref 160)] [] A' n' k' j') : xx_J G l mL_law 2048 84000 601024 7293034 Post 549 [(4, .int (nI i)), (3, .ref ho), (2, .ref bm), (1, .ref b), (0, .ref 160)] [] A n k j := by
  obtain ⟨T, len, eA, ru, cr, nw, nb, r, S, P, bp, bn, f, ⟨D, R0, sg, hX, hW, hD8, hG⟩, ⟨M, vL, nl, S1, hM, hN, hS, hS2, htp, hT1, hM3⟩, hO, ⟨hok, hpl, hru, hrv, hrc, hz⟩, hplc⟩ := hI
  obtain ⟨hap, hap2, hna, hbp, hbn, hn1, hn2, hn3⟩ := id hplc
  refine J_aload_n dL_law_549 rfl rfl ?_
  refine J_aload_n dL_law_550 rfl rfl ?_
  refine J_iload dL_law_551 rfl ?_
  refine J_iconst (v := 1) dL_law_553 (by decide) ?_
  refine J_iadd dL_law_554 ?_
  refine J_scr (q := i + 1) dL_law_555 (nI_add i 1) (by omega) (by omega) ?_
  refine J_aload_n dL_law_556 rfl rfl ?_
  refine J_callSX (As := [_, _, _]) dL_law_557 ml_L_163 cal_L_pointsOf rfl sm_L_pointsOf rfl (Nat.le_of_ble_eq_true rfl) ⟨by decide, by decide⟩ ⟨by omega, by omega⟩ (c_L_pointsOf (a := (aOf 1 (fS S P) (xx_scr G (i + 1)))) hst (c_X6_pointsOf hst hX hG (xx_scr G (i + 1))) hX hO (fun A1 h => hO.f9 (m := 1) (fun z a c => h.2 z (by omega)) rfl) k_Of) (fun v1 A1 n1 _ hQ1 => ?_) (fun E A n _ hQ => absurd hQ.1 (fun z => nomatch z))
  obtain ⟨er1, en1, em1, Ak1, f1, ⟨hGk1, hsk1⟩, ho1, hO1, hf1⟩ := hQ1
  cases er1
  have fr1 : ∀ z, ¬ z = ho → (z < b + 16 ∨ b + 46 ≤ z) → A1 z = A z := fun z h1 h2 => (ho1 z h1).trans (hsk1 z h2)
  have hX1 := hX.f9 (m := 1) (fun z a c => fr1 z (by omega) (by omega)) rfl
  have hW1 := hW.fr (fun z a c => fr1 z (by omega) (by omega))
  have hG1 := hGk1.fr (fun z a c => ho1 z (by omega))
  have hM1 := hM.f9 (m := 48) (fun z a c => fr1 z (by omega) (by omega)) rfl
  have hN1 := hN.f9 (m := 9) (fun z a c => fr1 z (by omega) (by omega)) rfl
  have hS1 := hS.f9 (m := 14) (fun z a c => fr1 z (by omega) (by omega)) rfl
  have hSb1 := hS2.f9 (m := 14) (fun z a c => fr1 z (by omega) (by omega)) rfl
  refine J_istore (L' := [(5, _), (4, _), (3, _), (2, _), (1, _), (0, _)]) dL_law_560 (by decide) rfl ?_
  refine J_aload_n dL_law_562 rfl rfl ?_
  refine J_aload_n dL_law_563 rfl rfl ?_
  refine J_iload dL_law_564 rfl ?_
  refine J_iconst (v := 1) dL_law_566 (by decide) ?_
  refine J_iadd dL_law_567 ?_
  refine J_scr (q := i + 1) dL_law_568 (nI_add i 1) (by omega) (by omega) ?_
  refine J_callVw (As := [_]) dL_law_569 ml_L_165 cal_X9_pointsOf im_X9_pointsOf se_X9_pointsOf (hM1.at 0 rfl) rfl rfl rfl (Nat.le_of_ble_eq_true rfl) ⟨by decide, by decide⟩ ⟨by omega, by omega⟩ (c_X9_pointsOf hst hM1 hN1 hS1 hap hok (xx_scr G (i + 1))) (fun A2 hQ2 => ?_)
  obtain ⟨M2, ms2, h02, hM2, hs2⟩ := hQ2
  have hX2 := hX1.f9 (m := 1) (fun z a c => hs2 z (by unfold isM; omega)) rfl
  have hW2 := rdW.fr hW1 (fun z a c => hs2 z (by unfold isM; omega))
  have hG2 := hG1.fr (fun z a c => hs2 z (by unfold isM; omega))
  have hO2 := hO1.f9 (m := 1) (fun z a c => hs2 z (by unfold isM; omega)) rfl
  have hN2 := hN1.mf hs2 (m := 9) rfl hap.p
  have hS2 := hS1.mf hs2 (m := 14) rfl hap.s
  have hSb2 := hSb1.mf hs2 (m := 14) rfl hap2.s
  refine J_istore (L' := [(6, _), (5, _), (4, _), (3, _), (2, _), (1, _), (0, _)]) dL_law_572 (by decide) rfl ?_
  refine J_aload_n dL_law_574 rfl rfl ?_
  refine J_callVr (As := []) dL_law_575 ml_L_117 cal_X9_thrown im_X9_thrown se_X9_thrown (hM2.at 0 rfl) rfl rfl rfl (Nat.le_of_ble_eq_true rfl) ⟨by decide, by decide⟩ ⟨by omega, by omega⟩ (c_X9_thrown hst hM2) ?_
  refine J_iload dL_law_578 rfl ?_
  refine J_icmp_eq (tgt := 585) dL_law_580 rfl (fun h580 => ?_) (fun h580 => ?_)
  · refine J_iload dL_law_585 rfl ?_
    refine J_if_ne (tgt := 602) dL_law_587 rfl (fun h587 => ?_) (fun h587 => ?_)
    · refine J_goto (tgt := 2062) dL_law_602 rfl ?_
      refine xx_J.pick [2, 3, 4, 5, 6] rfl ?_
      exact cont _ _ _ _ ⟨T, len, eA, ru, cr, nw, _, r, S, P, bp, bn, _, ⟨D, R0, sg, hX2, hW2, hD8, hG2⟩, ⟨_, vL, nl, _, hM2, hN2, hS2, hSb2, (htp.of (ms2.1 2 (by decide)) (ms2.2 1 (by decide))), hT1, ((ms2.1 3 (by decide)).trans hM3)⟩, hO2, ⟨hok, hpl, hru, hrv, hrc, hz⟩, (hplc.up en1)⟩ (by omega) (by omega)
    · refine J_aload_n dL_law_590 rfl rfl ?_
      refine J_iconst (v := 0) dL_law_591 (by decide) ?_
      refine J_laldN 0 dL_law_592 (hO2.at 0 rfl) rfl (by omega) (by decide) ?_
      refine J_iload dL_law_593 rfl ?_
      refine J_i2l dL_law_595 rfl ?_
      refine J_lcmp dL_law_596 ?_
      refine J_if_eq (tgt := 602) dL_law_597 rfl (fun h597 => ?_) (fun h597 => ?_)
      · refine J_goto (tgt := 2062) dL_law_602 rfl ?_
        refine xx_J.pick [2, 3, 4, 5, 6] rfl ?_
        exact cont _ _ _ _ ⟨T, len, eA, ru, cr, nw, _, r, S, P, bp, bn, _, ⟨D, R0, sg, hX2, hW2, hD8, hG2⟩, ⟨_, vL, nl, _, hM2, hN2, hS2, hSb2, (htp.of (ms2.1 2 (by decide)) (ms2.2 1 (by decide))), hT1, ((ms2.1 3 (by decide)).trans hM3)⟩, hO2, ⟨hok, hpl, hru, hrv, hrc, hz⟩, (hplc.up en1)⟩ (by omega) (by omega)
      · exact absurd (lg_eq.mpr (hf1 h587)) h597
  · exact absurd h02 h580
set_option maxHeartbeats 2000000 in
theorem lc_13 (hst : l.stackTraces = false) (hbm : b + 46 ≤ bm) (hho : ho = bm + 48) (hi : i + 6 ≤ G.2.2.2 200) (hL : G.2.2.2 200 < 2147483648) (hI : lwI b bm ho n A) (hkj : k ≤ 600900 ∧ j ≤ 7290000) (cont : ∀ A' n' k' j', lwI b bm ho n' A' → k' ≤ k + 40 → j' ≤ j + 2300 → xx_J G l mL_law 2048 84000 601024 7293034 Post 2062 [(4, .int (nI i)), (3, .ref ho), (2, .ref bm), (1, .ref b), (0, .ref 160)] [] A' n' k' j') : xx_J G l mL_law 2048 84000 601024 7293034 Post 605 [(4, .int (nI i)), (3, .ref ho), (2, .ref bm), (1, .ref b), (0, .ref 160)] [] A n k j := by
  obtain ⟨T, len, eA, ru, cr, nw, nb, r, S, P, bp, bn, f, ⟨D, R0, sg, hX, hW, hD8, hG⟩, ⟨M, vL, nl, S1, hM, hN, hS, hS2, htp, hT1, hM3⟩, hO, ⟨hok, hpl, hru, hrv, hrc, hz⟩, hplc⟩ := hI
  obtain ⟨hap, hap2, hna, hbp, hbn, hn1, hn2, hn3⟩ := id hplc
  refine J_aload_n dL_law_605 rfl rfl ?_
  refine J_aload_n dL_law_606 rfl rfl ?_
  refine J_iload dL_law_607 rfl ?_
  refine J_iconst (v := 1) dL_law_609 (by decide) ?_
  refine J_iadd dL_law_610 ?_
  refine J_scr (q := i + 1) dL_law_611 (nI_add i 1) (by omega) (by omega) ?_
  refine J_aload_n dL_law_612 rfl rfl ?_
  refine J_callSX (As := [_, _, _]) dL_law_613 ml_L_166 cal_L_winsOf rfl sm_L_winsOf rfl (Nat.le_of_ble_eq_true rfl) ⟨by decide, by decide⟩ ⟨by omega, by omega⟩ (c_L_winsOf (a := (aOf 2 (fS S P) (xx_scr G (i + 1)))) hst (c_X6_winsOf hst hX hG (xx_scr G (i + 1))) hX hO (fun A1 h => hO.f9 (m := 1) (fun z a c => h.2 z (by omega)) rfl) k_Of) (fun v1 A1 n1 _ hQ1 => ?_) (fun E A n _ hQ => absurd hQ.1 (fun z => nomatch z))
  obtain ⟨er1, en1, em1, Ak1, f1, ⟨hGk1, hsk1⟩, ho1, hO1, hf1⟩ := hQ1
  cases er1
  have fr1 : ∀ z, ¬ z = ho → (z < b + 16 ∨ b + 46 ≤ z) → A1 z = A z := fun z h1 h2 => (ho1 z h1).trans (hsk1 z h2)
  have hX1 := hX.f9 (m := 1) (fun z a c => fr1 z (by omega) (by omega)) rfl
  have hW1 := hW.fr (fun z a c => fr1 z (by omega) (by omega))
  have hG1 := hGk1.fr (fun z a c => ho1 z (by omega))
  have hM1 := hM.f9 (m := 48) (fun z a c => fr1 z (by omega) (by omega)) rfl
  have hN1 := hN.f9 (m := 9) (fun z a c => fr1 z (by omega) (by omega)) rfl
  have hS1 := hS.f9 (m := 14) (fun z a c => fr1 z (by omega) (by omega)) rfl
  have hSb1 := hS2.f9 (m := 14) (fun z a c => fr1 z (by omega) (by omega)) rfl
  refine J_istore (L' := [(5, _), (4, _), (3, _), (2, _), (1, _), (0, _)]) dL_law_616 (by decide) rfl ?_
  refine J_aload_n dL_law_618 rfl rfl ?_
  refine J_aload_n dL_law_619 rfl rfl ?_
  refine J_iload dL_law_620 rfl ?_
  refine J_iconst (v := 1) dL_law_622 (by decide) ?_
  refine J_iadd dL_law_623 ?_
  refine J_scr (q := i + 1) dL_law_624 (nI_add i 1) (by omega) (by omega) ?_
  refine J_callVw (As := [_]) dL_law_625 ml_L_168 cal_X9_winsOf im_X9_winsOf se_X9_winsOf (hM1.at 0 rfl) rfl rfl rfl (Nat.le_of_ble_eq_true rfl) ⟨by decide, by decide⟩ ⟨by omega, by omega⟩ (c_X9_winsOf hst hM1 hN1 hS1 hap hok (xx_scr G (i + 1))) (fun A2 hQ2 => ?_)
  obtain ⟨M2, ms2, h02, hM2, hs2⟩ := hQ2
  have hX2 := hX1.f9 (m := 1) (fun z a c => hs2 z (by unfold isM; omega)) rfl
  have hW2 := rdW.fr hW1 (fun z a c => hs2 z (by unfold isM; omega))
  have hG2 := hG1.fr (fun z a c => hs2 z (by unfold isM; omega))
  have hO2 := hO1.f9 (m := 1) (fun z a c => hs2 z (by unfold isM; omega)) rfl
  have hN2 := hN1.mf hs2 (m := 9) rfl hap.p
  have hS2 := hS1.mf hs2 (m := 14) rfl hap.s
  have hSb2 := hSb1.mf hs2 (m := 14) rfl hap2.s
  refine J_istore (L' := [(6, _), (5, _), (4, _), (3, _), (2, _), (1, _), (0, _)]) dL_law_628 (by decide) rfl ?_
  refine J_aload_n dL_law_630 rfl rfl ?_
  refine J_callVr (As := []) dL_law_631 ml_L_117 cal_X9_thrown im_X9_thrown se_X9_thrown (hM2.at 0 rfl) rfl rfl rfl (Nat.le_of_ble_eq_true rfl) ⟨by decide, by decide⟩ ⟨by omega, by omega⟩ (c_X9_thrown hst hM2) ?_
  refine J_iload dL_law_634 rfl ?_
  refine J_icmp_eq (tgt := 641) dL_law_636 rfl (fun h636 => ?_) (fun h636 => ?_)
  · refine J_iload dL_law_641 rfl ?_
    refine J_if_ne (tgt := 658) dL_law_643 rfl (fun h643 => ?_) (fun h643 => ?_)
    · refine J_goto (tgt := 2062) dL_law_658 rfl ?_
      refine xx_J.pick [2, 3, 4, 5, 6] rfl ?_
      exact cont _ _ _ _ ⟨T, len, eA, ru, cr, nw, _, r, S, P, bp, bn, _, ⟨D, R0, sg, hX2, hW2, hD8, hG2⟩, ⟨_, vL, nl, _, hM2, hN2, hS2, hSb2, (htp.of (ms2.1 2 (by decide)) (ms2.2 1 (by decide))), hT1, ((ms2.1 3 (by decide)).trans hM3)⟩, hO2, ⟨hok, hpl, hru, hrv, hrc, hz⟩, (hplc.up en1)⟩ (by omega) (by omega)
    · refine J_aload_n dL_law_646 rfl rfl ?_
      refine J_iconst (v := 0) dL_law_647 (by decide) ?_
      refine J_laldN 0 dL_law_648 (hO2.at 0 rfl) rfl (by omega) (by decide) ?_
      refine J_iload dL_law_649 rfl ?_
      refine J_i2l dL_law_651 rfl ?_
      refine J_lcmp dL_law_652 ?_
      refine J_if_eq (tgt := 658) dL_law_653 rfl (fun h653 => ?_) (fun h653 => ?_)
      · refine J_goto (tgt := 2062) dL_law_658 rfl ?_
        refine xx_J.pick [2, 3, 4, 5, 6] rfl ?_
        exact cont _ _ _ _ ⟨T, len, eA, ru, cr, nw, _, r, S, P, bp, bn, _, ⟨D, R0, sg, hX2, hW2, hD8, hG2⟩, ⟨_, vL, nl, _, hM2, hN2, hS2, hSb2, (htp.of (ms2.1 2 (by decide)) (ms2.2 1 (by decide))), hT1, ((ms2.1 3 (by decide)).trans hM3)⟩, hO2, ⟨hok, hpl, hru, hrv, hrc, hz⟩, (hplc.up en1)⟩ (by omega) (by omega)
      · exact absurd (lg_eq.mpr (hf1 h643)) h653
  · exact absurd h02 h636
set_option maxHeartbeats 2000000 in
theorem lc_14 (hst : l.stackTraces = false) (hbm : b + 46 ≤ bm) (hho : ho = bm + 48) (hi : i + 6 ≤ G.2.2.2 200) (hL : G.2.2.2 200 < 2147483648) (hI : lwI b bm ho n A) (hkj : k ≤ 600900 ∧ j ≤ 7290000) (cont : ∀ A' n' k' j', lwI b bm ho n' A' → k' ≤ k + 40 → j' ≤ j + 2300 → xx_J G l mL_law 2048 84000 601024 7293034 Post 2062 [(4, .int (nI i)), (3, .ref ho), (2, .ref bm), (1, .ref b), (0, .ref 160)] [] A' n' k' j') : xx_J G l mL_law 2048 84000 601024 7293034 Post 661 [(4, .int (nI i)), (3, .ref ho), (2, .ref bm), (1, .ref b), (0, .ref 160)] [] A n k j := by
  obtain ⟨T, len, eA, ru, cr, nw, nb, r, S, P, bp, bn, f, ⟨D, R0, sg, hX, hW, hD8, hG⟩, ⟨M, vL, nl, S1, hM, hN, hS, hS2, htp, hT1, hM3⟩, hO, ⟨hok, hpl, hru, hrv, hrc, hz⟩, hplc⟩ := hI
  obtain ⟨hap, hap2, hna, hbp, hbn, hn1, hn2, hn3⟩ := id hplc
  refine J_aload_n dL_law_661 rfl rfl ?_
  refine J_aload_n dL_law_662 rfl rfl ?_
  refine J_iload dL_law_663 rfl ?_
  refine J_iconst (v := 1) dL_law_665 (by decide) ?_
  refine J_iadd dL_law_666 ?_
  refine J_scr (q := i + 1) dL_law_667 (nI_add i 1) (by omega) (by omega) ?_
  refine J_aload_n dL_law_668 rfl rfl ?_
  refine J_callSX (As := [_, _, _]) dL_law_669 ml_L_169 cal_L_drawsOf rfl sm_L_drawsOf rfl (Nat.le_of_ble_eq_true rfl) ⟨by decide, by decide⟩ ⟨by omega, by omega⟩ (c_L_drawsOf (a := (aOf 3 (fS S P) (xx_scr G (i + 1)))) hst (c_X6_drawsOf hst hX hG (xx_scr G (i + 1))) hX hO (fun A1 h => hO.f9 (m := 1) (fun z a c => h.2 z (by omega)) rfl) k_Of) (fun v1 A1 n1 _ hQ1 => ?_) (fun E A n _ hQ => absurd hQ.1 (fun z => nomatch z))
  obtain ⟨er1, en1, em1, Ak1, f1, ⟨hGk1, hsk1⟩, ho1, hO1, hf1⟩ := hQ1
  cases er1
  have fr1 : ∀ z, ¬ z = ho → (z < b + 16 ∨ b + 46 ≤ z) → A1 z = A z := fun z h1 h2 => (ho1 z h1).trans (hsk1 z h2)
  have hX1 := hX.f9 (m := 1) (fun z a c => fr1 z (by omega) (by omega)) rfl
  have hW1 := hW.fr (fun z a c => fr1 z (by omega) (by omega))
  have hG1 := hGk1.fr (fun z a c => ho1 z (by omega))
  have hM1 := hM.f9 (m := 48) (fun z a c => fr1 z (by omega) (by omega)) rfl
  have hN1 := hN.f9 (m := 9) (fun z a c => fr1 z (by omega) (by omega)) rfl
  have hS1 := hS.f9 (m := 14) (fun z a c => fr1 z (by omega) (by omega)) rfl
  have hSb1 := hS2.f9 (m := 14) (fun z a c => fr1 z (by omega) (by omega)) rfl
  refine J_istore (L' := [(5, _), (4, _), (3, _), (2, _), (1, _), (0, _)]) dL_law_672 (by decide) rfl ?_
  refine J_aload_n dL_law_674 rfl rfl ?_
  refine J_aload_n dL_law_675 rfl rfl ?_
  refine J_iload dL_law_676 rfl ?_
  refine J_iconst (v := 1) dL_law_678 (by decide) ?_
  refine J_iadd dL_law_679 ?_
  refine J_scr (q := i + 1) dL_law_680 (nI_add i 1) (by omega) (by omega) ?_
  refine J_callVw (As := [_]) dL_law_681 ml_L_171 cal_X9_drawsOf im_X9_drawsOf se_X9_drawsOf (hM1.at 0 rfl) rfl rfl rfl (Nat.le_of_ble_eq_true rfl) ⟨by decide, by decide⟩ ⟨by omega, by omega⟩ (c_X9_drawsOf hst hM1 hN1 hS1 hap hok (xx_scr G (i + 1))) (fun A2 hQ2 => ?_)
  obtain ⟨M2, ms2, h02, hM2, hs2⟩ := hQ2
  have hX2 := hX1.f9 (m := 1) (fun z a c => hs2 z (by unfold isM; omega)) rfl
  have hW2 := rdW.fr hW1 (fun z a c => hs2 z (by unfold isM; omega))
  have hG2 := hG1.fr (fun z a c => hs2 z (by unfold isM; omega))
  have hO2 := hO1.f9 (m := 1) (fun z a c => hs2 z (by unfold isM; omega)) rfl
  have hN2 := hN1.mf hs2 (m := 9) rfl hap.p
  have hS2 := hS1.mf hs2 (m := 14) rfl hap.s
  have hSb2 := hSb1.mf hs2 (m := 14) rfl hap2.s
  refine J_istore (L' := [(6, _), (5, _), (4, _), (3, _), (2, _), (1, _), (0, _)]) dL_law_684 (by decide) rfl ?_
  refine J_aload_n dL_law_686 rfl rfl ?_
  refine J_callVr (As := []) dL_law_687 ml_L_117 cal_X9_thrown im_X9_thrown se_X9_thrown (hM2.at 0 rfl) rfl rfl rfl (Nat.le_of_ble_eq_true rfl) ⟨by decide, by decide⟩ ⟨by omega, by omega⟩ (c_X9_thrown hst hM2) ?_
  refine J_iload dL_law_690 rfl ?_
  refine J_icmp_eq (tgt := 697) dL_law_692 rfl (fun h692 => ?_) (fun h692 => ?_)
  · refine J_iload dL_law_697 rfl ?_
    refine J_if_ne (tgt := 714) dL_law_699 rfl (fun h699 => ?_) (fun h699 => ?_)
    · refine J_goto (tgt := 2062) dL_law_714 rfl ?_
      refine xx_J.pick [2, 3, 4, 5, 6] rfl ?_
      exact cont _ _ _ _ ⟨T, len, eA, ru, cr, nw, _, r, S, P, bp, bn, _, ⟨D, R0, sg, hX2, hW2, hD8, hG2⟩, ⟨_, vL, nl, _, hM2, hN2, hS2, hSb2, (htp.of (ms2.1 2 (by decide)) (ms2.2 1 (by decide))), hT1, ((ms2.1 3 (by decide)).trans hM3)⟩, hO2, ⟨hok, hpl, hru, hrv, hrc, hz⟩, (hplc.up en1)⟩ (by omega) (by omega)
    · refine J_aload_n dL_law_702 rfl rfl ?_
      refine J_iconst (v := 0) dL_law_703 (by decide) ?_
      refine J_laldN 0 dL_law_704 (hO2.at 0 rfl) rfl (by omega) (by decide) ?_
      refine J_iload dL_law_705 rfl ?_
      refine J_i2l dL_law_707 rfl ?_
      refine J_lcmp dL_law_708 ?_
      refine J_if_eq (tgt := 714) dL_law_709 rfl (fun h709 => ?_) (fun h709 => ?_)
      · refine J_goto (tgt := 2062) dL_law_714 rfl ?_
        refine xx_J.pick [2, 3, 4, 5, 6] rfl ?_
        exact cont _ _ _ _ ⟨T, len, eA, ru, cr, nw, _, r, S, P, bp, bn, _, ⟨D, R0, sg, hX2, hW2, hD8, hG2⟩, ⟨_, vL, nl, _, hM2, hN2, hS2, hSb2, (htp.of (ms2.1 2 (by decide)) (ms2.2 1 (by decide))), hT1, ((ms2.1 3 (by decide)).trans hM3)⟩, hO2, ⟨hok, hpl, hru, hrv, hrc, hz⟩, (hplc.up en1)⟩ (by omega) (by omega)
      · exact absurd (lg_eq.mpr (hf1 h699)) h709
  · exact absurd h02 h692
set_option maxHeartbeats 2000000 in
theorem lc_15 (hst : l.stackTraces = false) (hbm : b + 46 ≤ bm) (hho : ho = bm + 48) (hi : i + 6 ≤ G.2.2.2 200) (hL : G.2.2.2 200 < 2147483648) (hI : lwI b bm ho n A) (hkj : k ≤ 600900 ∧ j ≤ 7290000) (cont : ∀ A' n' k' j', lwI b bm ho n' A' → k' ≤ k + 40 → j' ≤ j + 2300 → xx_J G l mL_law 2048 84000 601024 7293034 Post 2062 [(4, .int (nI i)), (3, .ref ho), (2, .ref bm), (1, .ref b), (0, .ref 160)] [] A' n' k' j') : xx_J G l mL_law 2048 84000 601024 7293034 Post 717 [(4, .int (nI i)), (3, .ref ho), (2, .ref bm), (1, .ref b), (0, .ref 160)] [] A n k j := by
  obtain ⟨T, len, eA, ru, cr, nw, nb, r, S, P, bp, bn, f, ⟨D, R0, sg, hX, hW, hD8, hG⟩, ⟨M, vL, nl, S1, hM, hN, hS, hS2, htp, hT1, hM3⟩, hO, ⟨hok, hpl, hru, hrv, hrc, hz⟩, hplc⟩ := hI
  obtain ⟨hap, hap2, hna, hbp, hbn, hn1, hn2, hn3⟩ := id hplc
  refine J_aload_n dL_law_717 rfl rfl ?_
  refine J_aload_n dL_law_718 rfl rfl ?_
  refine J_iload dL_law_719 rfl ?_
  refine J_iconst (v := 1) dL_law_721 (by decide) ?_
  refine J_iadd dL_law_722 ?_
  refine J_scr (q := i + 1) dL_law_723 (nI_add i 1) (by omega) (by omega) ?_
  refine J_aload_n dL_law_724 rfl rfl ?_
  refine J_callSX (As := [_, _, _]) dL_law_725 ml_L_172 cal_L_lossesOf rfl sm_L_lossesOf rfl (Nat.le_of_ble_eq_true rfl) ⟨by decide, by decide⟩ ⟨by omega, by omega⟩ (c_L_lossesOf (a := (aOf 4 (fS S P) (xx_scr G (i + 1)))) hst (c_X6_lossesOf hst hX hG (xx_scr G (i + 1))) hX hO (fun A1 h => hO.f9 (m := 1) (fun z a c => h.2 z (by omega)) rfl) k_Of) (fun v1 A1 n1 _ hQ1 => ?_) (fun E A n _ hQ => absurd hQ.1 (fun z => nomatch z))
  obtain ⟨er1, en1, em1, Ak1, f1, ⟨hGk1, hsk1⟩, ho1, hO1, hf1⟩ := hQ1
  cases er1
  have fr1 : ∀ z, ¬ z = ho → (z < b + 16 ∨ b + 46 ≤ z) → A1 z = A z := fun z h1 h2 => (ho1 z h1).trans (hsk1 z h2)
  have hX1 := hX.f9 (m := 1) (fun z a c => fr1 z (by omega) (by omega)) rfl
  have hW1 := hW.fr (fun z a c => fr1 z (by omega) (by omega))
  have hG1 := hGk1.fr (fun z a c => ho1 z (by omega))
  have hM1 := hM.f9 (m := 48) (fun z a c => fr1 z (by omega) (by omega)) rfl
  have hN1 := hN.f9 (m := 9) (fun z a c => fr1 z (by omega) (by omega)) rfl
  have hS1 := hS.f9 (m := 14) (fun z a c => fr1 z (by omega) (by omega)) rfl
  have hSb1 := hS2.f9 (m := 14) (fun z a c => fr1 z (by omega) (by omega)) rfl
  refine J_istore (L' := [(5, _), (4, _), (3, _), (2, _), (1, _), (0, _)]) dL_law_728 (by decide) rfl ?_
  refine J_aload_n dL_law_730 rfl rfl ?_
  refine J_aload_n dL_law_731 rfl rfl ?_
  refine J_iload dL_law_732 rfl ?_
  refine J_iconst (v := 1) dL_law_734 (by decide) ?_
  refine J_iadd dL_law_735 ?_
  refine J_scr (q := i + 1) dL_law_736 (nI_add i 1) (by omega) (by omega) ?_
  refine J_callVw (As := [_]) dL_law_737 ml_L_174 cal_X9_lossesOf im_X9_lossesOf se_X9_lossesOf (hM1.at 0 rfl) rfl rfl rfl (Nat.le_of_ble_eq_true rfl) ⟨by decide, by decide⟩ ⟨by omega, by omega⟩ (c_X9_lossesOf hst hM1 hN1 hS1 hap hok (xx_scr G (i + 1))) (fun A2 hQ2 => ?_)
  obtain ⟨M2, ms2, h02, hM2, hs2⟩ := hQ2
  have hX2 := hX1.f9 (m := 1) (fun z a c => hs2 z (by unfold isM; omega)) rfl
  have hW2 := rdW.fr hW1 (fun z a c => hs2 z (by unfold isM; omega))
  have hG2 := hG1.fr (fun z a c => hs2 z (by unfold isM; omega))
  have hO2 := hO1.f9 (m := 1) (fun z a c => hs2 z (by unfold isM; omega)) rfl
  have hN2 := hN1.mf hs2 (m := 9) rfl hap.p
  have hS2 := hS1.mf hs2 (m := 14) rfl hap.s
  have hSb2 := hSb1.mf hs2 (m := 14) rfl hap2.s
  refine J_istore (L' := [(6, _), (5, _), (4, _), (3, _), (2, _), (1, _), (0, _)]) dL_law_740 (by decide) rfl ?_
  refine J_aload_n dL_law_742 rfl rfl ?_
  refine J_callVr (As := []) dL_law_743 ml_L_117 cal_X9_thrown im_X9_thrown se_X9_thrown (hM2.at 0 rfl) rfl rfl rfl (Nat.le_of_ble_eq_true rfl) ⟨by decide, by decide⟩ ⟨by omega, by omega⟩ (c_X9_thrown hst hM2) ?_
  refine J_iload dL_law_746 rfl ?_
  refine J_icmp_eq (tgt := 753) dL_law_748 rfl (fun h748 => ?_) (fun h748 => ?_)
  · refine J_iload dL_law_753 rfl ?_
    refine J_if_ne (tgt := 770) dL_law_755 rfl (fun h755 => ?_) (fun h755 => ?_)
    · refine J_goto (tgt := 2062) dL_law_770 rfl ?_
      refine xx_J.pick [2, 3, 4, 5, 6] rfl ?_
      exact cont _ _ _ _ ⟨T, len, eA, ru, cr, nw, _, r, S, P, bp, bn, _, ⟨D, R0, sg, hX2, hW2, hD8, hG2⟩, ⟨_, vL, nl, _, hM2, hN2, hS2, hSb2, (htp.of (ms2.1 2 (by decide)) (ms2.2 1 (by decide))), hT1, ((ms2.1 3 (by decide)).trans hM3)⟩, hO2, ⟨hok, hpl, hru, hrv, hrc, hz⟩, (hplc.up en1)⟩ (by omega) (by omega)
    · refine J_aload_n dL_law_758 rfl rfl ?_
      refine J_iconst (v := 0) dL_law_759 (by decide) ?_
      refine J_laldN 0 dL_law_760 (hO2.at 0 rfl) rfl (by omega) (by decide) ?_
      refine J_iload dL_law_761 rfl ?_
      refine J_i2l dL_law_763 rfl ?_
      refine J_lcmp dL_law_764 ?_
      refine J_if_eq (tgt := 770) dL_law_765 rfl (fun h765 => ?_) (fun h765 => ?_)
      · refine J_goto (tgt := 2062) dL_law_770 rfl ?_
        refine xx_J.pick [2, 3, 4, 5, 6] rfl ?_
        exact cont _ _ _ _ ⟨T, len, eA, ru, cr, nw, _, r, S, P, bp, bn, _, ⟨D, R0, sg, hX2, hW2, hD8, hG2⟩, ⟨_, vL, nl, _, hM2, hN2, hS2, hSb2, (htp.of (ms2.1 2 (by decide)) (ms2.2 1 (by decide))), hT1, ((ms2.1 3 (by decide)).trans hM3)⟩, hO2, ⟨hok, hpl, hru, hrv, hrc, hz⟩, (hplc.up en1)⟩ (by omega) (by omega)
      · exact absurd (lg_eq.mpr (hf1 h755)) h765
  · exact absurd h02 h748
set_option maxHeartbeats 2000000 in
theorem lc_16 (hst : l.stackTraces = false) (hbm : b + 46 ≤ bm) (hho : ho = bm + 48) (hi : i + 6 ≤ G.2.2.2 200) (hL : G.2.2.2 200 < 2147483648) (hI : lwI b bm ho n A) (hkj : k ≤ 600900 ∧ j ≤ 7290000) (cont : ∀ A' n' k' j', lwI b bm ho n' A' → k' ≤ k + 40 → j' ≤ j + 2300 → xx_J G l mL_law 2048 84000 601024 7293034 Post 2062 [(4, .int (nI i)), (3, .ref ho), (2, .ref bm), (1, .ref b), (0, .ref 160)] [] A' n' k' j') : xx_J G l mL_law 2048 84000 601024 7293034 Post 773 [(4, .int (nI i)), (3, .ref ho), (2, .ref bm), (1, .ref b), (0, .ref 160)] [] A n k j := by
  obtain ⟨T, len, eA, ru, cr, nw, nb, r, S, P, bp, bn, f, ⟨D, R0, sg, hX, hW, hD8, hG⟩, ⟨M, vL, nl, S1, hM, hN, hS, hS2, htp, hT1, hM3⟩, hO, ⟨hok, hpl, hru, hrv, hrc, hz⟩, hplc⟩ := hI
  obtain ⟨hap, hap2, hna, hbp, hbn, hn1, hn2, hn3⟩ := id hplc
  refine J_aload_n dL_law_773 rfl rfl ?_
  refine J_aload_n dL_law_774 rfl rfl ?_
  refine J_iload dL_law_775 rfl ?_
  refine J_iconst (v := 1) dL_law_777 (by decide) ?_
  refine J_iadd dL_law_778 ?_
  refine J_scr (q := i + 1) dL_law_779 (nI_add i 1) (by omega) (by omega) ?_
  refine J_aload_n dL_law_780 rfl rfl ?_
  refine J_callSX (As := [_, _, _]) dL_law_781 ml_L_175 cal_L_restsOf rfl sm_L_restsOf rfl (Nat.le_of_ble_eq_true rfl) ⟨by decide, by decide⟩ ⟨by omega, by omega⟩ (c_L_restsOf (a := (aOf 5 (fS S P) (xx_scr G (i + 1)))) hst (c_X6_restsOf hst hX hG (xx_scr G (i + 1))) hX hO (fun A1 h => hO.f9 (m := 1) (fun z a c => h.2 z (by omega)) rfl) k_Of) (fun v1 A1 n1 _ hQ1 => ?_) (fun E A n _ hQ => absurd hQ.1 (fun z => nomatch z))
  obtain ⟨er1, en1, em1, Ak1, f1, ⟨hGk1, hsk1⟩, ho1, hO1, hf1⟩ := hQ1
  cases er1
  have fr1 : ∀ z, ¬ z = ho → (z < b + 16 ∨ b + 46 ≤ z) → A1 z = A z := fun z h1 h2 => (ho1 z h1).trans (hsk1 z h2)
  have hX1 := hX.f9 (m := 1) (fun z a c => fr1 z (by omega) (by omega)) rfl
  have hW1 := hW.fr (fun z a c => fr1 z (by omega) (by omega))
  have hG1 := hGk1.fr (fun z a c => ho1 z (by omega))
  have hM1 := hM.f9 (m := 48) (fun z a c => fr1 z (by omega) (by omega)) rfl
  have hN1 := hN.f9 (m := 9) (fun z a c => fr1 z (by omega) (by omega)) rfl
  have hS1 := hS.f9 (m := 14) (fun z a c => fr1 z (by omega) (by omega)) rfl
  have hSb1 := hS2.f9 (m := 14) (fun z a c => fr1 z (by omega) (by omega)) rfl
  refine J_istore (L' := [(5, _), (4, _), (3, _), (2, _), (1, _), (0, _)]) dL_law_784 (by decide) rfl ?_
  refine J_aload_n dL_law_786 rfl rfl ?_
  refine J_aload_n dL_law_787 rfl rfl ?_
  refine J_iload dL_law_788 rfl ?_
  refine J_iconst (v := 1) dL_law_790 (by decide) ?_
  refine J_iadd dL_law_791 ?_
  refine J_scr (q := i + 1) dL_law_792 (nI_add i 1) (by omega) (by omega) ?_
  refine J_callVw (As := [_]) dL_law_793 ml_L_177 cal_X9_restsOf im_X9_restsOf se_X9_restsOf (hM1.at 0 rfl) rfl rfl rfl (Nat.le_of_ble_eq_true rfl) ⟨by decide, by decide⟩ ⟨by omega, by omega⟩ (c_X9_restsOf hst hM1 hN1 hS1 hap hok (xx_scr G (i + 1))) (fun A2 hQ2 => ?_)
  obtain ⟨M2, ms2, h02, hM2, hs2⟩ := hQ2
  have hX2 := hX1.f9 (m := 1) (fun z a c => hs2 z (by unfold isM; omega)) rfl
  have hW2 := rdW.fr hW1 (fun z a c => hs2 z (by unfold isM; omega))
  have hG2 := hG1.fr (fun z a c => hs2 z (by unfold isM; omega))
  have hO2 := hO1.f9 (m := 1) (fun z a c => hs2 z (by unfold isM; omega)) rfl
  have hN2 := hN1.mf hs2 (m := 9) rfl hap.p
  have hS2 := hS1.mf hs2 (m := 14) rfl hap.s
  have hSb2 := hSb1.mf hs2 (m := 14) rfl hap2.s
  refine J_istore (L' := [(6, _), (5, _), (4, _), (3, _), (2, _), (1, _), (0, _)]) dL_law_796 (by decide) rfl ?_
  refine J_aload_n dL_law_798 rfl rfl ?_
  refine J_callVr (As := []) dL_law_799 ml_L_117 cal_X9_thrown im_X9_thrown se_X9_thrown (hM2.at 0 rfl) rfl rfl rfl (Nat.le_of_ble_eq_true rfl) ⟨by decide, by decide⟩ ⟨by omega, by omega⟩ (c_X9_thrown hst hM2) ?_
  refine J_iload dL_law_802 rfl ?_
  refine J_icmp_eq (tgt := 809) dL_law_804 rfl (fun h804 => ?_) (fun h804 => ?_)
  · refine J_iload dL_law_809 rfl ?_
    refine J_if_ne (tgt := 826) dL_law_811 rfl (fun h811 => ?_) (fun h811 => ?_)
    · refine J_goto (tgt := 2062) dL_law_826 rfl ?_
      refine xx_J.pick [2, 3, 4, 5, 6] rfl ?_
      exact cont _ _ _ _ ⟨T, len, eA, ru, cr, nw, _, r, S, P, bp, bn, _, ⟨D, R0, sg, hX2, hW2, hD8, hG2⟩, ⟨_, vL, nl, _, hM2, hN2, hS2, hSb2, (htp.of (ms2.1 2 (by decide)) (ms2.2 1 (by decide))), hT1, ((ms2.1 3 (by decide)).trans hM3)⟩, hO2, ⟨hok, hpl, hru, hrv, hrc, hz⟩, (hplc.up en1)⟩ (by omega) (by omega)
    · refine J_aload_n dL_law_814 rfl rfl ?_
      refine J_iconst (v := 0) dL_law_815 (by decide) ?_
      refine J_laldN 0 dL_law_816 (hO2.at 0 rfl) rfl (by omega) (by decide) ?_
      refine J_iload dL_law_817 rfl ?_
      refine J_i2l dL_law_819 rfl ?_
      refine J_lcmp dL_law_820 ?_
      refine J_if_eq (tgt := 826) dL_law_821 rfl (fun h821 => ?_) (fun h821 => ?_)
      · refine J_goto (tgt := 2062) dL_law_826 rfl ?_
        refine xx_J.pick [2, 3, 4, 5, 6] rfl ?_
        exact cont _ _ _ _ ⟨T, len, eA, ru, cr, nw, _, r, S, P, bp, bn, _, ⟨D, R0, sg, hX2, hW2, hD8, hG2⟩, ⟨_, vL, nl, _, hM2, hN2, hS2, hSb2, (htp.of (ms2.1 2 (by decide)) (ms2.2 1 (by decide))), hT1, ((ms2.1 3 (by decide)).trans hM3)⟩, hO2, ⟨hok, hpl, hru, hrv, hrc, hz⟩, (hplc.up en1)⟩ (by omega) (by omega)
      · exact absurd (lg_eq.mpr (hf1 h811)) h821
  · exact absurd h02 h804
set_option maxHeartbeats 2000000 in
theorem lc_17 (hst : l.stackTraces = false) (hbm : b + 46 ≤ bm) (hho : ho = bm + 48) (hi : i + 6 ≤ G.2.2.2 200) (hL : G.2.2.2 200 < 2147483648) (hI : lwI b bm ho n A) (hkj : k ≤ 600900 ∧ j ≤ 7290000) (cont : ∀ A' n' k' j', lwI b bm ho n' A' → k' ≤ k + 40 → j' ≤ j + 2300 → xx_J G l mL_law 2048 84000 601024 7293034 Post 2062 [(4, .int (nI i)), (3, .ref ho), (2, .ref bm), (1, .ref b), (0, .ref 160)] [] A' n' k' j') : xx_J G l mL_law 2048 84000 601024 7293034 Post 829 [(4, .int (nI i)), (3, .ref ho), (2, .ref bm), (1, .ref b), (0, .ref 160)] [] A n k j := by
  obtain ⟨T, len, eA, ru, cr, nw, nb, r, S, P, bp, bn, f, ⟨D, R0, sg, hX, hW, hD8, hG⟩, ⟨M, vL, nl, S1, hM, hN, hS, hS2, htp, hT1, hM3⟩, hO, ⟨hok, hpl, hru, hrv, hrc, hz⟩, hplc⟩ := hI
  obtain ⟨hap, hap2, hna, hbp, hbn, hn1, hn2, hn3⟩ := id hplc
  refine J_aload_n dL_law_829 rfl rfl ?_
  refine J_aload_n dL_law_830 rfl rfl ?_
  refine J_iload dL_law_831 rfl ?_
  refine J_iconst (v := 1) dL_law_833 (by decide) ?_
  refine J_iadd dL_law_834 ?_
  refine J_scr (q := i + 1) dL_law_835 (nI_add i 1) (by omega) (by omega) ?_
  refine J_aload_n dL_law_836 rfl rfl ?_
  refine J_callSX (As := [_, _, _]) dL_law_837 ml_L_178 cal_L_beltsOf rfl sm_L_beltsOf rfl (Nat.le_of_ble_eq_true rfl) ⟨by decide, by decide⟩ ⟨by omega, by omega⟩ (c_L_beltsOf (a := (aOf 6 (fS S P) (xx_scr G (i + 1)))) hst (c_X6_beltsOf hst hX hG (xx_scr G (i + 1))) hX hO (fun A1 h => hO.f9 (m := 1) (fun z a c => h.2 z (by omega)) rfl) k_Of) (fun v1 A1 n1 _ hQ1 => ?_) (fun E A n _ hQ => absurd hQ.1 (fun z => nomatch z))
  obtain ⟨er1, en1, em1, Ak1, f1, ⟨hGk1, hsk1⟩, ho1, hO1, hf1⟩ := hQ1
  cases er1
  have fr1 : ∀ z, ¬ z = ho → (z < b + 16 ∨ b + 46 ≤ z) → A1 z = A z := fun z h1 h2 => (ho1 z h1).trans (hsk1 z h2)
  have hX1 := hX.f9 (m := 1) (fun z a c => fr1 z (by omega) (by omega)) rfl
  have hW1 := hW.fr (fun z a c => fr1 z (by omega) (by omega))
  have hG1 := hGk1.fr (fun z a c => ho1 z (by omega))
  have hM1 := hM.f9 (m := 48) (fun z a c => fr1 z (by omega) (by omega)) rfl
  have hN1 := hN.f9 (m := 9) (fun z a c => fr1 z (by omega) (by omega)) rfl
  have hS1 := hS.f9 (m := 14) (fun z a c => fr1 z (by omega) (by omega)) rfl
  have hSb1 := hS2.f9 (m := 14) (fun z a c => fr1 z (by omega) (by omega)) rfl
  refine J_istore (L' := [(5, _), (4, _), (3, _), (2, _), (1, _), (0, _)]) dL_law_840 (by decide) rfl ?_
  refine J_aload_n dL_law_842 rfl rfl ?_
  refine J_aload_n dL_law_843 rfl rfl ?_
  refine J_iload dL_law_844 rfl ?_
  refine J_iconst (v := 1) dL_law_846 (by decide) ?_
  refine J_iadd dL_law_847 ?_
  refine J_scr (q := i + 1) dL_law_848 (nI_add i 1) (by omega) (by omega) ?_
  refine J_callVw (As := [_]) dL_law_849 ml_L_180 cal_X9_beltsOf im_X9_beltsOf se_X9_beltsOf (hM1.at 0 rfl) rfl rfl rfl (Nat.le_of_ble_eq_true rfl) ⟨by decide, by decide⟩ ⟨by omega, by omega⟩ (c_X9_beltsOf hst hM1 hN1 hS1 hap hok (xx_scr G (i + 1))) (fun A2 hQ2 => ?_)
  obtain ⟨M2, ms2, h02, hM2, hs2⟩ := hQ2
  have hX2 := hX1.f9 (m := 1) (fun z a c => hs2 z (by unfold isM; omega)) rfl
  have hW2 := rdW.fr hW1 (fun z a c => hs2 z (by unfold isM; omega))
  have hG2 := hG1.fr (fun z a c => hs2 z (by unfold isM; omega))
  have hO2 := hO1.f9 (m := 1) (fun z a c => hs2 z (by unfold isM; omega)) rfl
  have hN2 := hN1.mf hs2 (m := 9) rfl hap.p
  have hS2 := hS1.mf hs2 (m := 14) rfl hap.s
  have hSb2 := hSb1.mf hs2 (m := 14) rfl hap2.s
  refine J_istore (L' := [(6, _), (5, _), (4, _), (3, _), (2, _), (1, _), (0, _)]) dL_law_852 (by decide) rfl ?_
  refine J_aload_n dL_law_854 rfl rfl ?_
  refine J_callVr (As := []) dL_law_855 ml_L_117 cal_X9_thrown im_X9_thrown se_X9_thrown (hM2.at 0 rfl) rfl rfl rfl (Nat.le_of_ble_eq_true rfl) ⟨by decide, by decide⟩ ⟨by omega, by omega⟩ (c_X9_thrown hst hM2) ?_
  refine J_iload dL_law_858 rfl ?_
  refine J_icmp_eq (tgt := 865) dL_law_860 rfl (fun h860 => ?_) (fun h860 => ?_)
  · refine J_iload dL_law_865 rfl ?_
    refine J_if_ne (tgt := 882) dL_law_867 rfl (fun h867 => ?_) (fun h867 => ?_)
    · refine J_goto (tgt := 2062) dL_law_882 rfl ?_
      refine xx_J.pick [2, 3, 4, 5, 6] rfl ?_
      exact cont _ _ _ _ ⟨T, len, eA, ru, cr, nw, _, r, S, P, bp, bn, _, ⟨D, R0, sg, hX2, hW2, hD8, hG2⟩, ⟨_, vL, nl, _, hM2, hN2, hS2, hSb2, (htp.of (ms2.1 2 (by decide)) (ms2.2 1 (by decide))), hT1, ((ms2.1 3 (by decide)).trans hM3)⟩, hO2, ⟨hok, hpl, hru, hrv, hrc, hz⟩, (hplc.up en1)⟩ (by omega) (by omega)
    · refine J_aload_n dL_law_870 rfl rfl ?_
      refine J_iconst (v := 0) dL_law_871 (by decide) ?_
      refine J_laldN 0 dL_law_872 (hO2.at 0 rfl) rfl (by omega) (by decide) ?_
      refine J_iload dL_law_873 rfl ?_
      refine J_i2l dL_law_875 rfl ?_
      refine J_lcmp dL_law_876 ?_
      refine J_if_eq (tgt := 882) dL_law_877 rfl (fun h877 => ?_) (fun h877 => ?_)
      · refine J_goto (tgt := 2062) dL_law_882 rfl ?_
        refine xx_J.pick [2, 3, 4, 5, 6] rfl ?_
        exact cont _ _ _ _ ⟨T, len, eA, ru, cr, nw, _, r, S, P, bp, bn, _, ⟨D, R0, sg, hX2, hW2, hD8, hG2⟩, ⟨_, vL, nl, _, hM2, hN2, hS2, hSb2, (htp.of (ms2.1 2 (by decide)) (ms2.2 1 (by decide))), hT1, ((ms2.1 3 (by decide)).trans hM3)⟩, hO2, ⟨hok, hpl, hru, hrv, hrc, hz⟩, (hplc.up en1)⟩ (by omega) (by omega)
      · exact absurd (lg_eq.mpr (hf1 h867)) h877
  · exact absurd h02 h860
set_option maxHeartbeats 2000000 in
theorem lc_18 (hst : l.stackTraces = false) (hbm : b + 46 ≤ bm) (hho : ho = bm + 48) (hi : i + 6 ≤ G.2.2.2 200) (hL : G.2.2.2 200 < 2147483648) (hI : lwI b bm ho n A) (hkj : k ≤ 600900 ∧ j ≤ 7290000) (cont : ∀ A' n' k' j', lwI b bm ho n' A' → k' ≤ k + 40 → j' ≤ j + 2300 → xx_J G l mL_law 2048 84000 601024 7293034 Post 2062 [(4, .int (nI i)), (3, .ref ho), (2, .ref bm), (1, .ref b), (0, .ref 160)] [] A' n' k' j') : xx_J G l mL_law 2048 84000 601024 7293034 Post 885 [(4, .int (nI i)), (3, .ref ho), (2, .ref bm), (1, .ref b), (0, .ref 160)] [] A n k j := by
  obtain ⟨T, len, eA, ru, cr, nw, nb, r, S, P, bp, bn, f, ⟨D, R0, sg, hX, hW, hD8, hG⟩, ⟨M, vL, nl, S1, hM, hN, hS, hS2, htp, hT1, hM3⟩, hO, ⟨hok, hpl, hru, hrv, hrc, hz⟩, hplc⟩ := hI
  obtain ⟨hap, hap2, hna, hbp, hbn, hn1, hn2, hn3⟩ := id hplc
  refine J_aload_n dL_law_885 rfl rfl ?_
  refine J_aload_n dL_law_886 rfl rfl ?_
  refine J_iload dL_law_887 rfl ?_
  refine J_iconst (v := 1) dL_law_889 (by decide) ?_
  refine J_iadd dL_law_890 ?_
  refine J_scr (q := i + 1) dL_law_891 (nI_add i 1) (by omega) (by omega) ?_
  refine J_aload_n dL_law_892 rfl rfl ?_
  refine J_callSX (As := [_, _, _]) dL_law_893 ml_L_181 cal_L_floatsOf rfl sm_L_floatsOf rfl (Nat.le_of_ble_eq_true rfl) ⟨by decide, by decide⟩ ⟨by omega, by omega⟩ (c_L_floatsOf (a := (aOf 7 (fS S P) (xx_scr G (i + 1)))) hst (c_X6_floatsOf hst hX hG (xx_scr G (i + 1))) hX hO (fun A1 h => hO.f9 (m := 1) (fun z a c => h.2 z (by omega)) rfl) k_Of) (fun v1 A1 n1 _ hQ1 => ?_) (fun E A n _ hQ => absurd hQ.1 (fun z => nomatch z))
  obtain ⟨er1, en1, em1, Ak1, f1, ⟨hGk1, hsk1⟩, ho1, hO1, hf1⟩ := hQ1
  cases er1
  have fr1 : ∀ z, ¬ z = ho → (z < b + 16 ∨ b + 46 ≤ z) → A1 z = A z := fun z h1 h2 => (ho1 z h1).trans (hsk1 z h2)
  have hX1 := hX.f9 (m := 1) (fun z a c => fr1 z (by omega) (by omega)) rfl
  have hW1 := hW.fr (fun z a c => fr1 z (by omega) (by omega))
  have hG1 := hGk1.fr (fun z a c => ho1 z (by omega))
  have hM1 := hM.f9 (m := 48) (fun z a c => fr1 z (by omega) (by omega)) rfl
  have hN1 := hN.f9 (m := 9) (fun z a c => fr1 z (by omega) (by omega)) rfl
  have hS1 := hS.f9 (m := 14) (fun z a c => fr1 z (by omega) (by omega)) rfl
  have hSb1 := hS2.f9 (m := 14) (fun z a c => fr1 z (by omega) (by omega)) rfl
  refine J_istore (L' := [(5, _), (4, _), (3, _), (2, _), (1, _), (0, _)]) dL_law_896 (by decide) rfl ?_
  refine J_aload_n dL_law_898 rfl rfl ?_
  refine J_aload_n dL_law_899 rfl rfl ?_
  refine J_iload dL_law_900 rfl ?_
  refine J_iconst (v := 1) dL_law_902 (by decide) ?_
  refine J_iadd dL_law_903 ?_
  refine J_scr (q := i + 1) dL_law_904 (nI_add i 1) (by omega) (by omega) ?_
  refine J_callVw (As := [_]) dL_law_905 ml_L_183 cal_X9_floatsOf im_X9_floatsOf se_X9_floatsOf (hM1.at 0 rfl) rfl rfl rfl (Nat.le_of_ble_eq_true rfl) ⟨by decide, by decide⟩ ⟨by omega, by omega⟩ (c_X9_floatsOf hst hM1 hN1 hS1 hap hok (xx_scr G (i + 1))) (fun A2 hQ2 => ?_)
  obtain ⟨M2, ms2, h02, hM2, hs2⟩ := hQ2
  have hX2 := hX1.f9 (m := 1) (fun z a c => hs2 z (by unfold isM; omega)) rfl
  have hW2 := rdW.fr hW1 (fun z a c => hs2 z (by unfold isM; omega))
  have hG2 := hG1.fr (fun z a c => hs2 z (by unfold isM; omega))
  have hO2 := hO1.f9 (m := 1) (fun z a c => hs2 z (by unfold isM; omega)) rfl
  have hN2 := hN1.mf hs2 (m := 9) rfl hap.p
  have hS2 := hS1.mf hs2 (m := 14) rfl hap.s
  have hSb2 := hSb1.mf hs2 (m := 14) rfl hap2.s
  refine J_istore (L' := [(6, _), (5, _), (4, _), (3, _), (2, _), (1, _), (0, _)]) dL_law_908 (by decide) rfl ?_
  refine J_aload_n dL_law_910 rfl rfl ?_
  refine J_callVr (As := []) dL_law_911 ml_L_117 cal_X9_thrown im_X9_thrown se_X9_thrown (hM2.at 0 rfl) rfl rfl rfl (Nat.le_of_ble_eq_true rfl) ⟨by decide, by decide⟩ ⟨by omega, by omega⟩ (c_X9_thrown hst hM2) ?_
  refine J_iload dL_law_914 rfl ?_
  refine J_icmp_eq (tgt := 921) dL_law_916 rfl (fun h916 => ?_) (fun h916 => ?_)
  · refine J_iload dL_law_921 rfl ?_
    refine J_if_ne (tgt := 938) dL_law_923 rfl (fun h923 => ?_) (fun h923 => ?_)
    · refine J_goto (tgt := 2062) dL_law_938 rfl ?_
      refine xx_J.pick [2, 3, 4, 5, 6] rfl ?_
      exact cont _ _ _ _ ⟨T, len, eA, ru, cr, nw, _, r, S, P, bp, bn, _, ⟨D, R0, sg, hX2, hW2, hD8, hG2⟩, ⟨_, vL, nl, _, hM2, hN2, hS2, hSb2, (htp.of (ms2.1 2 (by decide)) (ms2.2 1 (by decide))), hT1, ((ms2.1 3 (by decide)).trans hM3)⟩, hO2, ⟨hok, hpl, hru, hrv, hrc, hz⟩, (hplc.up en1)⟩ (by omega) (by omega)
    · refine J_aload_n dL_law_926 rfl rfl ?_
      refine J_iconst (v := 0) dL_law_927 (by decide) ?_
      refine J_laldN 0 dL_law_928 (hO2.at 0 rfl) rfl (by omega) (by decide) ?_
      refine J_iload dL_law_929 rfl ?_
      refine J_i2l dL_law_931 rfl ?_
      refine J_lcmp dL_law_932 ?_
      refine J_if_eq (tgt := 938) dL_law_933 rfl (fun h933 => ?_) (fun h933 => ?_)
      · refine J_goto (tgt := 2062) dL_law_938 rfl ?_
        refine xx_J.pick [2, 3, 4, 5, 6] rfl ?_
        exact cont _ _ _ _ ⟨T, len, eA, ru, cr, nw, _, r, S, P, bp, bn, _, ⟨D, R0, sg, hX2, hW2, hD8, hG2⟩, ⟨_, vL, nl, _, hM2, hN2, hS2, hSb2, (htp.of (ms2.1 2 (by decide)) (ms2.2 1 (by decide))), hT1, ((ms2.1 3 (by decide)).trans hM3)⟩, hO2, ⟨hok, hpl, hru, hrv, hrc, hz⟩, (hplc.up en1)⟩ (by omega) (by omega)
      · exact absurd (lg_eq.mpr (hf1 h923)) h933
  · exact absurd h02 h916
end XLCa
