/-! THE LAW: its cases -/
section XLCd
variable {G : xx_G} {l : Launch} {A : xx_H} {n b bm ho i k j : Nat} {Post : xx_Q}
set_option maxHeartbeats 2000000 in
theorem lc_0 (hst : l.stackTraces = false) (hbm : b + 46 ≤ bm) (hho : ho = bm + 48) (hi : i + 6 ≤ G.2.2.2 200) (hL : G.2.2.2 200 < 2147483648) (hI : lwI b bm ho n A) (hkj : k ≤ 600900 ∧ j ≤ 7290000) (cont : ∀ A' n' k' j', lwI b bm ho n' A' → k' ≤ k + 40 → j' ≤ j + 2300 → xx_J G l mL_law 2048 84000 601024 7293034 Post 2062 [(4, .int (nI i)), (3, .ref ho), (2, .ref bm), (1, .ref b), (0, .ref 160)] [] A' n' k' j') : xx_J G l mL_law 2048 84000 601024 7293034 Post 216 [(4, .int (nI i)), (3, .ref ho), (2, .ref bm), (1, .ref b), (0, .ref 160)] [] A n k j := by
  obtain ⟨T, len, eA, ru, cr, nw, nb, r, S, P, bp, bn, f, ⟨D, R0, sg, hX, hW, hD8, hG⟩, ⟨M, vL, nl, S1, hM, hN, hS, hS2, htp, hT1, hM3⟩, hO, ⟨hok, hpl, hru, hrv, hrc, hz⟩, hplc⟩ := hI
  obtain ⟨hap, hap2, hna, hbp, hbn, hn1, hn2, hn3⟩ := id hplc
  refine J_aload_n dL_law_216 rfl rfl ?_
  refine J_aload_n dL_law_217 rfl rfl ?_
  refine J_iload dL_law_218 rfl ?_
  refine J_iconst (v := 1) dL_law_220 (by decide) ?_
  refine J_iadd dL_law_221 ?_
  refine J_scr (q := i + 1) dL_law_222 (nI_add i 1) (by omega) (by omega) ?_
  refine J_aload_n dL_law_223 rfl rfl ?_
  refine J_iload dL_law_224 rfl ?_
  refine J_iconst (v := 2) dL_law_226 (by decide) ?_
  refine J_iadd dL_law_227 ?_
  refine J_scr (q := i + 2) dL_law_228 (nI_add i 2) (by omega) (by omega) ?_
  refine J_aload_n dL_law_229 rfl rfl ?_
  refine J_iload dL_law_230 rfl ?_
  refine J_iconst (v := 3) dL_law_232 (by decide) ?_
  refine J_iadd dL_law_233 ?_
  refine J_scr (q := i + 3) dL_law_234 (nI_add i 3) (by omega) (by omega) ?_
  refine J_aload_n dL_law_235 rfl rfl ?_
  refine J_iload dL_law_236 rfl ?_
  refine J_iconst (v := 4) dL_law_238 (by decide) ?_
  refine J_iadd dL_law_239 ?_
  refine J_scr (q := i + 4) dL_law_240 (nI_add i 4) (by omega) (by omega) ?_
  refine J_aload_n dL_law_241 rfl rfl ?_
  refine J_iload dL_law_242 rfl ?_
  refine J_iconst (v := 5) dL_law_244 (by decide) ?_
  refine J_iadd dL_law_245 ?_
  refine J_scr (q := i + 5) dL_law_246 (nI_add i 5) (by omega) (by omega) ?_
  refine J_aload_n dL_law_247 rfl rfl ?_
  refine J_callSX (As := [_, _, _, _, _, _, _]) dL_law_248 ml_L_111 cal_L_feed rfl sm_L_feed rfl (Nat.le_of_ble_eq_true rfl) ⟨by decide, by decide⟩ ⟨by omega, by omega⟩ (c_L_feed (a := (aFeed len)) hst (c_X6_feed hst hX hW.2.1 hT1 htp.2.1 (xx_scr G (i + 1)) (xx_scr G (i + 2)) (xx_scr G (i + 3)) (xx_scr G (i + 4)) (xx_scr G (i + 5))) hX hO (fun A1 h => hO.f9 (m := 1) (fun z a c => h.2 z (by omega)) rfl) k_Feed) (fun v1 A1 n1 _ hQ1 => ?_) (fun E A n _ hQ => absurd hQ.1 (fun z => nomatch z))
  obtain ⟨er1, en1, em1, Ak1, f1, ⟨hTk1, hsk1⟩, ho1, hO1, hf1⟩ := hQ1
  cases er1
  have fr1 : ∀ z, ¬ z = ho → (z < b + 2 ∨ b + 7 ≤ z) → A1 z = A z := fun z h1 h2 => (ho1 z h1).trans (hsk1 z h2)
  have hX1 := hX.f9 (m := 1) (fun z a c => fr1 z (by omega) (by omega)) rfl
  have hG1 := hG.fr (fun z a c => fr1 z (by omega) (by omega))
  have hM1 := hM.f9 (m := 48) (fun z a c => fr1 z (by omega) (by omega)) rfl
  have hN1 := hN.f9 (m := 9) (fun z a c => fr1 z (by omega) (by omega)) rfl
  have hS1 := hS.f9 (m := 14) (fun z a c => fr1 z (by omega) (by omega)) rfl
  have hSb1 := hS2.f9 (m := 14) (fun z a c => fr1 z (by omega) (by omega)) rfl
  have hDc1 := layD_f9 hW.1 (fun z h => fr1 z (by omega) (by omega))
  have hTc1 := hTk1.f9 (m := 5) (fun z a c => ho1 z (by omega)) rfl
  have hRc1 := hW.2.2.f9 (m := 6) (fun z a c => fr1 z (by omega) (by omega)) rfl
  refine J_istore (L' := [(5, _), (4, _), (3, _), (2, _), (1, _), (0, _)]) dL_law_251 (by decide) rfl ?_
  refine J_aload_n dL_law_253 rfl rfl ?_
  refine J_aload_n dL_law_254 rfl rfl ?_
  refine J_iload dL_law_255 rfl ?_
  refine J_iconst (v := 1) dL_law_257 (by decide) ?_
  refine J_iadd dL_law_258 ?_
  refine J_scr (q := i + 1) dL_law_259 (nI_add i 1) (by omega) (by omega) ?_
  refine J_aload_n dL_law_260 rfl rfl ?_
  refine J_iload dL_law_261 rfl ?_
  refine J_iconst (v := 2) dL_law_263 (by decide) ?_
  refine J_iadd dL_law_264 ?_
  refine J_scr (q := i + 2) dL_law_265 (nI_add i 2) (by omega) (by omega) ?_
  refine J_aload_n dL_law_266 rfl rfl ?_
  refine J_iload dL_law_267 rfl ?_
  refine J_iconst (v := 3) dL_law_269 (by decide) ?_
  refine J_iadd dL_law_270 ?_
  refine J_scr (q := i + 3) dL_law_271 (nI_add i 3) (by omega) (by omega) ?_
  refine J_aload_n dL_law_272 rfl rfl ?_
  refine J_iload dL_law_273 rfl ?_
  refine J_iconst (v := 4) dL_law_275 (by decide) ?_
  refine J_iadd dL_law_276 ?_
  refine J_scr (q := i + 4) dL_law_277 (nI_add i 4) (by omega) (by omega) ?_
  refine J_aload_n dL_law_278 rfl rfl ?_
  refine J_iload dL_law_279 rfl ?_
  refine J_iconst (v := 5) dL_law_281 (by decide) ?_
  refine J_iadd dL_law_282 ?_
  refine J_scr (q := i + 5) dL_law_283 (nI_add i 5) (by omega) (by omega) ?_
  refine J_callV (As := [_, _, _, _, _]) dL_law_284 ml_L_116 cal_X9_feed im_X9_feed se_X9_feed (hM1.at 0 rfl) rfl rfl rfl (Nat.le_of_ble_eq_true rfl) ⟨by decide, by decide⟩ ⟨by omega, by omega⟩ (c_X9_feed hst (by omega) hM1 htp.1 htp.2.1 (xx_scr G (i + 1)) (xx_scr G (i + 2)) (xx_scr G (i + 3)) (xx_scr G (i + 4)) (xx_scr G (i + 5))) (fun E A n _ hQ => absurd hQ.1 (fun z => nomatch z)) (fun v2 A2 n2 _ hQ2 => ?_)
  obtain ⟨er2, en2, em2, hs2, M2, h02, h22, mi2, ma2, mt2, hM2⟩ := hQ2
  cases er2
  have hX2 := hX1.f9 (m := 1) (fun z a c => hs2 z (by unfold isM; omega) (by omega)) rfl
  have hW2 := rdW.fr (D := D) (R0 := R0) (sg := sg) (T := (tFeed T len (xx_scr G (i + 1)) (xx_scr G (i + 2)) (xx_scr G (i + 3)) (xx_scr G (i + 4)) (xx_scr G (i + 5)))) ⟨hDc1, hTc1, hRc1⟩ (fun z a c => hs2 z (by unfold isM; omega) (by omega))
  have hG2 := hG1.fr (fun z a c => hs2 z (by unfold isM; omega) (by omega))
  have hO2 := hO1.f9 (m := 1) (fun z a c => hs2 z (by unfold isM; omega) (by omega)) rfl
  have hN2 := hN1.f9 (m := 9) (fun z a d => hs2 z (by have := hap.p (z - bp) (by omega); rw [show bp + (z - bp) = z by omega] at this; exact this) (by omega)) rfl
  have hS2 := hS1.f9 (m := 14) (fun z a d => hs2 z (by have := hap.s (z - bn) (by omega); rw [show bn + (z - bn) = z by omega] at this; exact this) (by omega)) rfl
  have hSb2 := hSb1.f9 (m := 14) (fun z a d => hs2 z (by unfold isM; omega) (by omega)) rfl
  have htp2 := feed_tp htp hT1 h22 mt2
  refine J_istore (L' := [(6, _), (5, _), (4, _), (3, _), (2, _), (1, _), (0, _)]) dL_law_287 (by decide) rfl ?_
  refine J_aload_n dL_law_289 rfl rfl ?_
  refine J_callVr (As := []) dL_law_290 ml_L_117 cal_X9_thrown im_X9_thrown se_X9_thrown (hM2.at 0 rfl) rfl rfl rfl (Nat.le_of_ble_eq_true rfl) ⟨by decide, by decide⟩ ⟨by omega, by omega⟩ (c_X9_thrown hst hM2) ?_
  refine J_iload dL_law_293 rfl ?_
  refine J_icmp_eq (tgt := 300) dL_law_295 rfl (fun h295 => ?_) (fun h295 => ?_)
  · refine J_iload dL_law_300 rfl ?_
    refine J_if_ne (tgt := 317) dL_law_302 rfl (fun h302 => ?_) (fun h302 => ?_)
    · refine J_goto (tgt := 2062) dL_law_317 rfl ?_
      refine xx_J.pick [2, 3, 4, 5, 6] rfl ?_
      exact cont _ _ _ _ ⟨(tFeed T len (xx_scr G (i + 1)) (xx_scr G (i + 2)) (xx_scr G (i + 3)) (xx_scr G (i + 4)) (xx_scr G (i + 5))), (nFeed len), eA, ru, cr, nw, _, r, S, P, bp, bn, _, ⟨D, R0, sg, hX2, hW2, hD8, hG2⟩, ⟨_, vL, nl, _, hM2, hN2, hS2, hSb2, htp2, (tFeed_1 hT1), ((mi2 3 (by decide)).trans hM3)⟩, hO2, ⟨hok, hpl, hru, hrv, hrc, hz⟩, (hplc.up (Nat.le_trans en1 en2))⟩ (by omega) (by omega)
    · refine J_aload_n dL_law_305 rfl rfl ?_
      refine J_iconst (v := 0) dL_law_306 (by decide) ?_
      refine J_laldN 0 dL_law_307 (hO2.at 0 rfl) rfl (by omega) (by decide) ?_
      refine J_iload dL_law_308 rfl ?_
      refine J_i2l dL_law_310 rfl ?_
      refine J_lcmp dL_law_311 ?_
      refine J_if_eq (tgt := 317) dL_law_312 rfl (fun h312 => ?_) (fun h312 => ?_)
      · refine J_goto (tgt := 2062) dL_law_317 rfl ?_
        refine xx_J.pick [2, 3, 4, 5, 6] rfl ?_
        exact cont _ _ _ _ ⟨(tFeed T len (xx_scr G (i + 1)) (xx_scr G (i + 2)) (xx_scr G (i + 3)) (xx_scr G (i + 4)) (xx_scr G (i + 5))), (nFeed len), eA, ru, cr, nw, _, r, S, P, bp, bn, _, ⟨D, R0, sg, hX2, hW2, hD8, hG2⟩, ⟨_, vL, nl, _, hM2, hN2, hS2, hSb2, htp2, (tFeed_1 hT1), ((mi2 3 (by decide)).trans hM3)⟩, hO2, ⟨hok, hpl, hru, hrv, hrc, hz⟩, (hplc.up (Nat.le_trans en1 en2))⟩ (by omega) (by omega)
      · exact absurd (lg_eq.mpr (hf1 h302)) h312
  · exact absurd h02 h295
set_option maxHeartbeats 2000000 in
theorem lc_1 (hst : l.stackTraces = false) (hbm : b + 46 ≤ bm) (hho : ho = bm + 48) (hi : i + 6 ≤ G.2.2.2 200) (hL : G.2.2.2 200 < 2147483648) (hI : lwI b bm ho n A) (hkj : k ≤ 600900 ∧ j ≤ 7290000) (cont : ∀ A' n' k' j', lwI b bm ho n' A' → k' ≤ k + 40 → j' ≤ j + 2300 → xx_J G l mL_law 2048 84000 601024 7293034 Post 2062 [(4, .int (nI i)), (3, .ref ho), (2, .ref bm), (1, .ref b), (0, .ref 160)] [] A' n' k' j') : xx_J G l mL_law 2048 84000 601024 7293034 Post 320 [(4, .int (nI i)), (3, .ref ho), (2, .ref bm), (1, .ref b), (0, .ref 160)] [] A n k j := by
  obtain ⟨T, len, eA, ru, cr, nw, nb, r, S, P, bp, bn, f, ⟨D, R0, sg, hX, hW, hD8, hG⟩, ⟨M, vL, nl, S1, hM, hN, hS, hS2, htp, hT1, hM3⟩, hO, ⟨hok, hpl, hru, hrv, hrc, hz⟩, hplc⟩ := hI
  obtain ⟨hap, hap2, hna, hbp, hbn, hn1, hn2, hn3⟩ := id hplc
  refine J_aload_n dL_law_320 rfl rfl ?_
  refine J_aload_n dL_law_321 rfl rfl ?_
  refine J_iload dL_law_322 rfl ?_
  refine J_iconst (v := 1) dL_law_324 (by decide) ?_
  refine J_iadd dL_law_325 ?_
  refine J_scr (q := i + 1) dL_law_326 (nI_add i 1) (by omega) (by omega) ?_
  refine J_aload_n dL_law_327 rfl rfl ?_
  refine J_callSX (As := [_, _, _]) dL_law_328 ml_L_120 cal_L_trim rfl sm_L_trim rfl (Nat.le_of_ble_eq_true rfl) ⟨by decide, by decide⟩ ⟨by omega, by omega⟩ (c_L_trim (a := (aTrim len (xx_scr G (i + 1)))) hst (c_X6_trim hst hX hW.2.1 hT1 htp.2.1 (xx_scr G (i + 1))) hX hO (fun A1 h => hO.f9 (m := 1) (fun z a c => h.2 z (by omega)) rfl) k_Trim) (fun v1 A1 n1 _ hQ1 => ?_) (fun E A n _ hQ => absurd hQ.1 (fun z => nomatch z))
  obtain ⟨er1, en1, em1, Ak1, f1, ⟨hTk1, hsk1⟩, ho1, hO1, hf1⟩ := hQ1
  cases er1
  have fr1 : ∀ z, ¬ z = ho → (z < b + 2 ∨ b + 7 ≤ z) → A1 z = A z := fun z h1 h2 => (ho1 z h1).trans (hsk1 z h2)
  have hX1 := hX.f9 (m := 1) (fun z a c => fr1 z (by omega) (by omega)) rfl
  have hG1 := hG.fr (fun z a c => fr1 z (by omega) (by omega))
  have hM1 := hM.f9 (m := 48) (fun z a c => fr1 z (by omega) (by omega)) rfl
  have hN1 := hN.f9 (m := 9) (fun z a c => fr1 z (by omega) (by omega)) rfl
  have hS1 := hS.f9 (m := 14) (fun z a c => fr1 z (by omega) (by omega)) rfl
  have hSb1 := hS2.f9 (m := 14) (fun z a c => fr1 z (by omega) (by omega)) rfl
  have hDc1 := layD_f9 hW.1 (fun z h => fr1 z (by omega) (by omega))
  have hTc1 := hTk1.f9 (m := 5) (fun z a c => ho1 z (by omega)) rfl
  have hRc1 := hW.2.2.f9 (m := 6) (fun z a c => fr1 z (by omega) (by omega)) rfl
  refine J_istore (L' := [(5, _), (4, _), (3, _), (2, _), (1, _), (0, _)]) dL_law_331 (by decide) rfl ?_
  refine J_aload_n dL_law_333 rfl rfl ?_
  refine J_aload_n dL_law_334 rfl rfl ?_
  refine J_iload dL_law_335 rfl ?_
  refine J_iconst (v := 1) dL_law_337 (by decide) ?_
  refine J_iadd dL_law_338 ?_
  refine J_scr (q := i + 1) dL_law_339 (nI_add i 1) (by omega) (by omega) ?_
  refine J_callVw (As := [_]) dL_law_340 ml_L_123 cal_X9_trim im_X9_trim se_X9_trim (hM1.at 0 rfl) rfl rfl rfl (Nat.le_of_ble_eq_true rfl) ⟨by decide, by decide⟩ ⟨by omega, by omega⟩ (c_X9_trim hst hM1 htp.1 htp.2.1 (xx_scr G (i + 1))) (fun A2 hQ2 => ?_)
  obtain ⟨M2, mi2, ma2, h02, h22, hM2, hs2⟩ := hQ2
  have hX2 := hX1.f9 (m := 1) (fun z a c => hs2 z (by unfold isM; omega)) rfl
  have hW2 := rdW.fr (D := D) (R0 := R0) (sg := sg) (T := (tTrim T len (xx_scr G (i + 1)))) ⟨hDc1, hTc1, hRc1⟩ (fun z a c => hs2 z (by unfold isM; omega))
  have hG2 := hG1.fr (fun z a c => hs2 z (by unfold isM; omega))
  have hO2 := hO1.f9 (m := 1) (fun z a c => hs2 z (by unfold isM; omega)) rfl
  have hN2 := hN1.mf hs2 (m := 9) rfl hap.p
  have hS2 := hS1.mf hs2 (m := 14) rfl hap.s
  have hSb2 := hSb1.mf hs2 (m := 14) rfl hap2.s
  have htp2 := trim_tp htp h22 (ma2 1 (by decide))
  refine J_istore (L' := [(6, _), (5, _), (4, _), (3, _), (2, _), (1, _), (0, _)]) dL_law_343 (by decide) rfl ?_
  refine J_aload_n dL_law_345 rfl rfl ?_
  refine J_callVr (As := []) dL_law_346 ml_L_117 cal_X9_thrown im_X9_thrown se_X9_thrown (hM2.at 0 rfl) rfl rfl rfl (Nat.le_of_ble_eq_true rfl) ⟨by decide, by decide⟩ ⟨by omega, by omega⟩ (c_X9_thrown hst hM2) ?_
  refine J_iload dL_law_349 rfl ?_
  refine J_icmp_eq (tgt := 356) dL_law_351 rfl (fun h351 => ?_) (fun h351 => ?_)
  · refine J_iload dL_law_356 rfl ?_
    refine J_if_ne (tgt := 373) dL_law_358 rfl (fun h358 => ?_) (fun h358 => ?_)
    · refine J_goto (tgt := 2062) dL_law_373 rfl ?_
      refine xx_J.pick [2, 3, 4, 5, 6] rfl ?_
      exact cont _ _ _ _ ⟨(tTrim T len (xx_scr G (i + 1))), (nTrim len (xx_scr G (i + 1))), eA, ru, cr, nw, _, r, S, P, bp, bn, _, ⟨D, R0, sg, hX2, hW2, hD8, hG2⟩, ⟨_, vL, nl, _, hM2, hN2, hS2, hSb2, htp2, (tTrim_1 hT1 htp.2.1), ((mi2 3 (by decide)).trans hM3)⟩, hO2, ⟨hok, hpl, hru, hrv, hrc, hz⟩, (hplc.up en1)⟩ (by omega) (by omega)
    · refine J_aload_n dL_law_361 rfl rfl ?_
      refine J_iconst (v := 0) dL_law_362 (by decide) ?_
      refine J_laldN 0 dL_law_363 (hO2.at 0 rfl) rfl (by omega) (by decide) ?_
      refine J_iload dL_law_364 rfl ?_
      refine J_i2l dL_law_366 rfl ?_
      refine J_lcmp dL_law_367 ?_
      refine J_if_eq (tgt := 373) dL_law_368 rfl (fun h368 => ?_) (fun h368 => ?_)
      · refine J_goto (tgt := 2062) dL_law_373 rfl ?_
        refine xx_J.pick [2, 3, 4, 5, 6] rfl ?_
        exact cont _ _ _ _ ⟨(tTrim T len (xx_scr G (i + 1))), (nTrim len (xx_scr G (i + 1))), eA, ru, cr, nw, _, r, S, P, bp, bn, _, ⟨D, R0, sg, hX2, hW2, hD8, hG2⟩, ⟨_, vL, nl, _, hM2, hN2, hS2, hSb2, htp2, (tTrim_1 hT1 htp.2.1), ((mi2 3 (by decide)).trans hM3)⟩, hO2, ⟨hok, hpl, hru, hrv, hrc, hz⟩, (hplc.up en1)⟩ (by omega) (by omega)
      · exact absurd (lg_eq.mpr (hf1 h358)) h368
  · exact absurd h02 h351
end XLCd
